/-! the law's act and agree -/
section
variable {M m : PM} {a : Nat → Nat → Int32} {s len K : Nat}
set_option maxRecDepth 100000 in
theorem r_act (W : WR (setA M a) m s len K) (H : LA a (zz m) (s, 0)) (x y : Int32) : ∃ M2 a2 m2 s2 K2, Rn ML_act [vR 3 0 0, vI x, vI y, vR 8 0 0, vR 8 1 0, vR 8 2 0, vR 8 3 0, vR 8 4 0, vR 8 5 0, vR 8 6 0, vR 8 7 0, vR 8 8 0] (setA M a) (some (vI 1)) (setA M2 a2) ∧ WR (setA M2 a2) m2 s2 len K2 ∧ LA a2 (zz m2) (s2, 0) := by
  have S := W.1.1
  obtain ⟨q, hq, k1⟩ := r_at (setA M a) (x >>> ((20 : Int32) &&& (31 : Int32))) (n := 14) (by omega) (by omega)
  obtain ⟨h, hh, k2⟩ := r_at (setA M a) y (n := 5) (by omega) (by omega)
  obtain ⟨r, hr, k3⟩ := r_at (setA M a) (y >>> ((3 : Int32) &&& (31 : Int32))) (n := 6) (by omega) (by omega)
  suffices A : AOK len 39 [some (vR 3 0 0), some (vI x), some (vI y), some (vR 8 0 0), some (vR 8 1 0), some (vR 8 2 0), some (vR 8 3 0), some (vR 8 4 0), some (vR 8 5 0), some (vR 8 6 0), some (vR 8 7 0), some (vR 8 8 0), some (vI (nI q)), some (vI (nI h)), some (vI (nI r)), some (vI (clT (setA M a) 0 1 h)), none, none, none, none, none, none] M a by
    obtain ⟨M2, a2, m2, s2, K2, g1, g2, g3⟩ := A
    refine ⟨M2, a2, m2, s2, K2, rn_of [some (vR 3 0 0), some (vI x), some (vI y), some (vR 8 0 0), some (vR 8 1 0), some (vR 8 2 0), some (vR 8 3 0), some (vR 8 4 0), some (vR 8 5 0), some (vR 8 6 0), some (vR 8 7 0), some (vR 8 8 0), none, none, none, none, none, none, none, none, none, none] rfl ?_, g2, g3⟩
    refine an_b 4 (pc2 := 6) (L2 := [some (vR 3 0 0), some (vI x), some (vI y), some (vR 8 0 0), some (vR 8 1 0), some (vR 8 2 0), some (vR 8 3 0), some (vR 8 4 0), some (vR 8 5 0), some (vR 8 6 0), some (vR 8 7 0), some (vR 8 8 0), none, none, none, none, none, none, none, none, none, none]) (st2 := [vI (14 : Int32), vI (x >>> ((20 : Int32) &&& (31 : Int32)))]) (m1 := (setA M a)) rfl ?_
    refine an_call k1 rfl rfl rfl rfl ?_
    refine an_b 3 (pc2 := 13) (L2 := [some (vR 3 0 0), some (vI x), some (vI y), some (vR 8 0 0), some (vR 8 1 0), some (vR 8 2 0), some (vR 8 3 0), some (vR 8 4 0), some (vR 8 5 0), some (vR 8 6 0), some (vR 8 7 0), some (vR 8 8 0), some (vI (nI q)), none, none, none, none, none, none, none, none, none]) (st2 := [vI (5 : Int32), vI y]) (m1 := (setA M a)) rfl ?_
    refine an_call k2 rfl rfl rfl rfl ?_
    refine an_b 5 (pc2 := 23) (L2 := [some (vR 3 0 0), some (vI x), some (vI y), some (vR 8 0 0), some (vR 8 1 0), some (vR 8 2 0), some (vR 8 3 0), some (vR 8 4 0), some (vR 8 5 0), some (vR 8 6 0), some (vR 8 7 0), some (vR 8 8 0), some (vI (nI q)), some (vI (nI h)), none, none, none, none, none, none, none, none]) (st2 := [vI (6 : Int32), vI (y >>> ((3 : Int32) &&& (31 : Int32)))]) (m1 := (setA M a)) rfl ?_
    refine an_call k3 rfl rfl rfl rfl ?_
    refine an_b 4 (pc2 := 34) (L2 := [some (vR 3 0 0), some (vI x), some (vI y), some (vR 8 0 0), some (vR 8 1 0), some (vR 8 2 0), some (vR 8 3 0), some (vR 8 4 0), some (vR 8 5 0), some (vR 8 6 0), some (vR 8 7 0), some (vR 8 8 0), some (vI (nI q)), some (vI (nI h)), some (vI (nI r)), none, none, none, none, none, none, none]) (st2 := [vI (nI h), vR 8 3 0, vR 8 2 0]) (m1 := (setA M a)) rfl ?_
    refine an_call (r_rowOf S.2.1 H.2.1 hh) rfl rfl rfl rfl ?_
    refine an_b 1 (pc2 := 39) (L2 := [some (vR 3 0 0), some (vI x), some (vI y), some (vR 8 0 0), some (vR 8 1 0), some (vR 8 2 0), some (vR 8 3 0), some (vR 8 4 0), some (vR 8 5 0), some (vR 8 6 0), some (vR 8 7 0), some (vR 8 8 0), some (vI (nI q)), some (vI (nI h)), some (vI (nI r)), some (vI (clT (setA M a) 0 1 h)), none, none, none, none, none, none]) (st2 := []) (m1 := (setA M a)) rfl ?_
    exact g1
  have go : ∀ pc, (∀ (v : OC) (m2 : PM), An ML_act pc [some (vR 3 0 0), some (vI x), some (vI y), some (vR 8 0 0), some (vR 8 1 0), some (vR 8 2 0), some (vR 8 3 0), some (vR 8 4 0), some (vR 8 5 0), some (vR 8 6 0), some (vR 8 7 0), some (vR 8 8 0), some (vI (nI q)), some (vI (nI h)), some (vI (nI r)), some (vI (clT (setA M a) 0 1 h)), none, none, none, none, none, none] [] (setA M a) v m2 → An ML_act 39 [some (vR 3 0 0), some (vI x), some (vI y), some (vR 8 0 0), some (vR 8 1 0), some (vR 8 2 0), some (vR 8 3 0), some (vR 8 4 0), some (vR 8 5 0), some (vR 8 6 0), some (vR 8 7 0), some (vR 8 8 0), some (vI (nI q)), some (vI (nI h)), some (vI (nI r)), some (vI (clT (setA M a) 0 1 h)), none, none, none, none, none, none] [] (setA M a) v m2) → AOK len pc [some (vR 3 0 0), some (vI x), some (vI y), some (vR 8 0 0), some (vR 8 1 0), some (vR 8 2 0), some (vR 8 3 0), some (vR 8 4 0), some (vR 8 5 0), some (vR 8 6 0), some (vR 8 7 0), some (vR 8 8 0), some (vI (nI q)), some (vI (nI h)), some (vI (nI r)), some (vI (clT (setA M a) 0 1 h)), none, none, none, none, none, none] M a → AOK len 39 [some (vR 3 0 0), some (vI x), some (vI y), some (vR 8 0 0), some (vR 8 1 0), some (vR 8 2 0), some (vR 8 3 0), some (vR 8 4 0), some (vR 8 5 0), some (vR 8 6 0), some (vR 8 7 0), some (vR 8 8 0), some (vI (nI q)), some (vI (nI h)), some (vI (nI r)), some (vI (clT (setA M a) 0 1 h)), none, none, none, none, none, none] M a := by
    rintro pc k ⟨M2, a2, m2, s2, K2, g1, g2, g3⟩
    exact ⟨M2, a2, m2, s2, K2, k _ _ g1, g2, g3⟩
  by_cases c8 : q < 8
  · refine go 46 (fun v m2 k => ?_) (act_ask W H hh hr)
    refine an_b 3 (pc2 := if (8 : Int32) ≤ (nI q) then 136 else 46) (L2 := [some (vR 3 0 0), some (vI x), some (vI y), some (vR 8 0 0), some (vR 8 1 0), some (vR 8 2 0), some (vR 8 3 0), some (vR 8 4 0), some (vR 8 5 0), some (vR 8 6 0), some (vR 8 7 0), some (vR 8 8 0), some (vI (nI q)), some (vI (nI h)), some (vI (nI r)), some (vI (clT (setA M a) 0 1 h)), none, none, none, none, none, none]) (st2 := []) (m1 := (setA M a)) rfl ?_
    refine an_f (nI_ge (b := 8) c8 (by omega)) ?_
    exact k
  by_cases d8 : q = 8
  · refine go 143 (fun v m2 k => ?_) (act_release W H hh hr)
    refine an_b 3 (pc2 := if (8 : Int32) ≤ (nI q) then 136 else 46) (L2 := [some (vR 3 0 0), some (vI x), some (vI y), some (vR 8 0 0), some (vR 8 1 0), some (vR 8 2 0), some (vR 8 3 0), some (vR 8 4 0), some (vR 8 5 0), some (vR 8 6 0), some (vR 8 7 0), some (vR 8 8 0), some (vI (nI q)), some (vI (nI h)), some (vI (nI r)), some (vI (clT (setA M a) 0 1 h)), none, none, none, none, none, none]) (st2 := []) (m1 := (setA M a)) rfl ?_
    refine an_t (nI_le (a := 8) (by omega) (by omega)) ?_
    refine an_b 3 (pc2 := if ¬ (nI q) = (8 : Int32) then 223 else 143) (L2 := [some (vR 3 0 0), some (vI x), some (vI y), some (vR 8 0 0), some (vR 8 1 0), some (vR 8 2 0), some (vR 8 3 0), some (vR 8 4 0), some (vR 8 5 0), some (vR 8 6 0), some (vR 8 7 0), some (vR 8 8 0), some (vI (nI q)), some (vI (nI h)), some (vI (nI r)), some (vI (clT (setA M a) 0 1 h)), none, none, none, none, none, none]) (st2 := []) (m1 := (setA M a)) rfl ?_
    refine an_f (fun u => u (by rw [d8]; rfl)) ?_
    exact k
  by_cases d9 : q = 9
  · refine go 230 (fun v m2 k => ?_) (act_giveUp W H hh)
    refine an_b 3 (pc2 := if (8 : Int32) ≤ (nI q) then 136 else 46) (L2 := [some (vR 3 0 0), some (vI x), some (vI y), some (vR 8 0 0), some (vR 8 1 0), some (vR 8 2 0), some (vR 8 3 0), some (vR 8 4 0), some (vR 8 5 0), some (vR 8 6 0), some (vR 8 7 0), some (vR 8 8 0), some (vI (nI q)), some (vI (nI h)), some (vI (nI r)), some (vI (clT (setA M a) 0 1 h)), none, none, none, none, none, none]) (st2 := []) (m1 := (setA M a)) rfl ?_
    refine an_t (nI_le (a := 8) (by omega) (by omega)) ?_
    refine an_b 3 (pc2 := if ¬ (nI q) = (8 : Int32) then 223 else 143) (L2 := [some (vR 3 0 0), some (vI x), some (vI y), some (vR 8 0 0), some (vR 8 1 0), some (vR 8 2 0), some (vR 8 3 0), some (vR 8 4 0), some (vR 8 5 0), some (vR 8 6 0), some (vR 8 7 0), some (vR 8 8 0), some (vI (nI q)), some (vI (nI h)), some (vI (nI r)), some (vI (clT (setA M a) 0 1 h)), none, none, none, none, none, none]) (st2 := []) (m1 := (setA M a)) rfl ?_
    refine an_t (show ¬ nI q = nI 8 from (fun u => by have := (nI_eq (by omega) (by omega)).mp u; omega)) ?_
    refine an_b 3 (pc2 := if ¬ (nI q) = (9 : Int32) then 333 else 230) (L2 := [some (vR 3 0 0), some (vI x), some (vI y), some (vR 8 0 0), some (vR 8 1 0), some (vR 8 2 0), some (vR 8 3 0), some (vR 8 4 0), some (vR 8 5 0), some (vR 8 6 0), some (vR 8 7 0), some (vR 8 8 0), some (vI (nI q)), some (vI (nI h)), some (vI (nI r)), some (vI (clT (setA M a) 0 1 h)), none, none, none, none, none, none]) (st2 := []) (m1 := (setA M a)) rfl ?_
    refine an_f (fun u => u (by rw [d9]; rfl)) ?_
    exact k
  by_cases d10 : q = 10
  · refine go 340 (fun v m2 k => ?_) (act_handOn W H hh hr)
    refine an_b 3 (pc2 := if (8 : Int32) ≤ (nI q) then 136 else 46) (L2 := [some (vR 3 0 0), some (vI x), some (vI y), some (vR 8 0 0), some (vR 8 1 0), some (vR 8 2 0), some (vR 8 3 0), some (vR 8 4 0), some (vR 8 5 0), some (vR 8 6 0), some (vR 8 7 0), some (vR 8 8 0), some (vI (nI q)), some (vI (nI h)), some (vI (nI r)), some (vI (clT (setA M a) 0 1 h)), none, none, none, none, none, none]) (st2 := []) (m1 := (setA M a)) rfl ?_
    refine an_t (nI_le (a := 8) (by omega) (by omega)) ?_
    refine an_b 3 (pc2 := if ¬ (nI q) = (8 : Int32) then 223 else 143) (L2 := [some (vR 3 0 0), some (vI x), some (vI y), some (vR 8 0 0), some (vR 8 1 0), some (vR 8 2 0), some (vR 8 3 0), some (vR 8 4 0), some (vR 8 5 0), some (vR 8 6 0), some (vR 8 7 0), some (vR 8 8 0), some (vI (nI q)), some (vI (nI h)), some (vI (nI r)), some (vI (clT (setA M a) 0 1 h)), none, none, none, none, none, none]) (st2 := []) (m1 := (setA M a)) rfl ?_
    refine an_t (show ¬ nI q = nI 8 from (fun u => by have := (nI_eq (by omega) (by omega)).mp u; omega)) ?_
    refine an_b 3 (pc2 := if ¬ (nI q) = (9 : Int32) then 333 else 230) (L2 := [some (vR 3 0 0), some (vI x), some (vI y), some (vR 8 0 0), some (vR 8 1 0), some (vR 8 2 0), some (vR 8 3 0), some (vR 8 4 0), some (vR 8 5 0), some (vR 8 6 0), some (vR 8 7 0), some (vR 8 8 0), some (vI (nI q)), some (vI (nI h)), some (vI (nI r)), some (vI (clT (setA M a) 0 1 h)), none, none, none, none, none, none]) (st2 := []) (m1 := (setA M a)) rfl ?_
    refine an_t (show ¬ nI q = nI 9 from (fun u => by have := (nI_eq (by omega) (by omega)).mp u; omega)) ?_
    refine an_b 3 (pc2 := if ¬ (nI q) = (10 : Int32) then 595 else 340) (L2 := [some (vR 3 0 0), some (vI x), some (vI y), some (vR 8 0 0), some (vR 8 1 0), some (vR 8 2 0), some (vR 8 3 0), some (vR 8 4 0), some (vR 8 5 0), some (vR 8 6 0), some (vR 8 7 0), some (vR 8 8 0), some (vI (nI q)), some (vI (nI h)), some (vI (nI r)), some (vI (clT (setA M a) 0 1 h)), none, none, none, none, none, none]) (st2 := []) (m1 := (setA M a)) rfl ?_
    refine an_f (fun u => u (by rw [d10]; rfl)) ?_
    exact k
  by_cases d11 : q = 11
  · refine go 595 (fun v m2 k => ?_) (act_set W H (by rw [d11]; rfl))
    refine an_b 3 (pc2 := if (8 : Int32) ≤ (nI q) then 136 else 46) (L2 := [some (vR 3 0 0), some (vI x), some (vI y), some (vR 8 0 0), some (vR 8 1 0), some (vR 8 2 0), some (vR 8 3 0), some (vR 8 4 0), some (vR 8 5 0), some (vR 8 6 0), some (vR 8 7 0), some (vR 8 8 0), some (vI (nI q)), some (vI (nI h)), some (vI (nI r)), some (vI (clT (setA M a) 0 1 h)), none, none, none, none, none, none]) (st2 := []) (m1 := (setA M a)) rfl ?_
    refine an_t (nI_le (a := 8) (by omega) (by omega)) ?_
    refine an_b 3 (pc2 := if ¬ (nI q) = (8 : Int32) then 223 else 143) (L2 := [some (vR 3 0 0), some (vI x), some (vI y), some (vR 8 0 0), some (vR 8 1 0), some (vR 8 2 0), some (vR 8 3 0), some (vR 8 4 0), some (vR 8 5 0), some (vR 8 6 0), some (vR 8 7 0), some (vR 8 8 0), some (vI (nI q)), some (vI (nI h)), some (vI (nI r)), some (vI (clT (setA M a) 0 1 h)), none, none, none, none, none, none]) (st2 := []) (m1 := (setA M a)) rfl ?_
    refine an_t (show ¬ nI q = nI 8 from (fun u => by have := (nI_eq (by omega) (by omega)).mp u; omega)) ?_
    refine an_b 3 (pc2 := if ¬ (nI q) = (9 : Int32) then 333 else 230) (L2 := [some (vR 3 0 0), some (vI x), some (vI y), some (vR 8 0 0), some (vR 8 1 0), some (vR 8 2 0), some (vR 8 3 0), some (vR 8 4 0), some (vR 8 5 0), some (vR 8 6 0), some (vR 8 7 0), some (vR 8 8 0), some (vI (nI q)), some (vI (nI h)), some (vI (nI r)), some (vI (clT (setA M a) 0 1 h)), none, none, none, none, none, none]) (st2 := []) (m1 := (setA M a)) rfl ?_
    refine an_t (show ¬ nI q = nI 9 from (fun u => by have := (nI_eq (by omega) (by omega)).mp u; omega)) ?_
    refine an_b 3 (pc2 := if ¬ (nI q) = (10 : Int32) then 595 else 340) (L2 := [some (vR 3 0 0), some (vI x), some (vI y), some (vR 8 0 0), some (vR 8 1 0), some (vR 8 2 0), some (vR 8 3 0), some (vR 8 4 0), some (vR 8 5 0), some (vR 8 6 0), some (vR 8 7 0), some (vR 8 8 0), some (vI (nI q)), some (vI (nI h)), some (vI (nI r)), some (vI (clT (setA M a) 0 1 h)), none, none, none, none, none, none]) (st2 := []) (m1 := (setA M a)) rfl ?_
    refine an_t (show ¬ nI q = nI 10 from (fun u => by have := (nI_eq (by omega) (by omega)).mp u; omega)) ?_
    exact k
  · refine go 595 (fun v m2 k => ?_) (act_pass W H (show ¬ nI q = nI 11 from (fun u => by have := (nI_eq (by omega) (by omega)).mp u; omega)))
    refine an_b 3 (pc2 := if (8 : Int32) ≤ (nI q) then 136 else 46) (L2 := [some (vR 3 0 0), some (vI x), some (vI y), some (vR 8 0 0), some (vR 8 1 0), some (vR 8 2 0), some (vR 8 3 0), some (vR 8 4 0), some (vR 8 5 0), some (vR 8 6 0), some (vR 8 7 0), some (vR 8 8 0), some (vI (nI q)), some (vI (nI h)), some (vI (nI r)), some (vI (clT (setA M a) 0 1 h)), none, none, none, none, none, none]) (st2 := []) (m1 := (setA M a)) rfl ?_
    refine an_t (nI_le (a := 8) (by omega) (by omega)) ?_
    refine an_b 3 (pc2 := if ¬ (nI q) = (8 : Int32) then 223 else 143) (L2 := [some (vR 3 0 0), some (vI x), some (vI y), some (vR 8 0 0), some (vR 8 1 0), some (vR 8 2 0), some (vR 8 3 0), some (vR 8 4 0), some (vR 8 5 0), some (vR 8 6 0), some (vR 8 7 0), some (vR 8 8 0), some (vI (nI q)), some (vI (nI h)), some (vI (nI r)), some (vI (clT (setA M a) 0 1 h)), none, none, none, none, none, none]) (st2 := []) (m1 := (setA M a)) rfl ?_
    refine an_t (show ¬ nI q = nI 8 from (fun u => by have := (nI_eq (by omega) (by omega)).mp u; omega)) ?_
    refine an_b 3 (pc2 := if ¬ (nI q) = (9 : Int32) then 333 else 230) (L2 := [some (vR 3 0 0), some (vI x), some (vI y), some (vR 8 0 0), some (vR 8 1 0), some (vR 8 2 0), some (vR 8 3 0), some (vR 8 4 0), some (vR 8 5 0), some (vR 8 6 0), some (vR 8 7 0), some (vR 8 8 0), some (vI (nI q)), some (vI (nI h)), some (vI (nI r)), some (vI (clT (setA M a) 0 1 h)), none, none, none, none, none, none]) (st2 := []) (m1 := (setA M a)) rfl ?_
    refine an_t (show ¬ nI q = nI 9 from (fun u => by have := (nI_eq (by omega) (by omega)).mp u; omega)) ?_
    refine an_b 3 (pc2 := if ¬ (nI q) = (10 : Int32) then 595 else 340) (L2 := [some (vR 3 0 0), some (vI x), some (vI y), some (vR 8 0 0), some (vR 8 1 0), some (vR 8 2 0), some (vR 8 3 0), some (vR 8 4 0), some (vR 8 5 0), some (vR 8 6 0), some (vR 8 7 0), some (vR 8 8 0), some (vI (nI q)), some (vI (nI h)), some (vI (nI r)), some (vI (clT (setA M a) 0 1 h)), none, none, none, none, none, none]) (st2 := []) (m1 := (setA M a)) rfl ?_
    refine an_t (show ¬ nI q = nI 10 from (fun u => by have := (nI_eq (by omega) (by omega)).mp u; omega)) ?_
    exact k
def lkF (a : Nat → Nat → Int32) (h r : Nat) (x : Int32) : Int32 := if a 1 (6 * h + r) ≤ 0 then x else x + 1
def agF (a : Nat → Nat → Int32) (h : Nat) (x : Int32 × Int32 × Int32 × Int32) : Int32 × Int32 × Int32 × Int32 := (lp (lkF a h) 6 0 x.1, x.2.1 + a 6 h, x.2.2.1 + a 7 h, x.2.2.2 + a 8 h)
theorem lk_6 (H : LK a (zz m)) {h : Nat} (hh : h < 5) (x : Int32) : lp (lkF a h) 6 0 x = x + v_X5_locksOf m h := by
  have k := lp_rel (b_X5_locksOf_1 m h) (lkF a h) 6 (fun _ p q => q = x + p) (fun j p q hj e => by
    unfold b_X5_locksOf_1 lkF
    rw [show v_X5_lockOf m h j = a 1 (6 * h + j) from (H.1 h j hh hj).symm, e]
    by_cases c : a 1 (6 * h + j) ≤ 0
    · rw [if_pos c, if_pos c, Int32.add_zero]
    · rw [if_neg c, if_neg c, Int32.add_assoc]) 6 0 0 x rfl (Int32.add_zero x).symm
  rw [k]
  congr 1
  unfold v_X5_locksOf
  rw [show (12 : Nat) = 6 + 6 from rfl, lp_add]
  exact (lp_id _ 12 _ 6 (0 + 6) rfl (fun i g1 g2 => by
    unfold b_X5_locksOf_1
    rw [show v_X5_lockOf m h i = 0 from H.2 h i (by omega) g2 (Or.inr (by omega)), if_pos (show (0 : Int32) ≤ 0 by decide), Int32.add_zero])).symm
theorem lk_0 (H : LK a (zz m)) {h : Nat} (h5 : 5 ≤ h) (h8 : h < 8) : v_X5_locksOf m h = 0 := by
  unfold v_X5_locksOf
  exact lp_id _ 12 _ 12 0 rfl (fun i g1 g2 => by
    unfold b_X5_locksOf_1
    rw [show v_X5_lockOf m h i = 0 from H.2 h i h8 g2 (Or.inl h5), if_pos (show (0 : Int32) ≤ 0 by decide), Int32.add_zero])
theorem ag_all (H : LA a (zz m) (s, 0)) : lp (agF a) 5 0 (0, 0, 0, 0) = (v_X5_allLocks m, v_X5_sumFrom m 337 8, v_X5_sumFrom m 345 8, v_X5_sumFrom m 353 8) := by
  have k := lp_inv (agF a) 5 (fun j x => x = (lp (b_X5_allLocks_1 m) j 0 0, lp (b_X5_sumFrom_1 m 337 8) j 0 0, lp (b_X5_sumFrom_1 m 345 8) j 0 0, lp (b_X5_sumFrom_1 m 353 8) j 0 0)) (fun j x hj e => by
    have l1 : ∀ (f : Nat → Int32 → Int32), lp f (j + 1) 0 0 = f j (lp f j 0 0) := fun f => by
      rw [lp_add, lp_s, lp_0, Nat.zero_add]
    rw [l1, l1, l1, l1, e]
    unfold agF
    dsimp only
    rw [lk_6 H.1 hj, show a 6 j = zz m (337 + j) from (H.2.2.1 1 (by omega)).1 j hj, show a 7 j = zz m (345 + j) from (H.2.2.1 2 (by omega)).1 j hj, show a 8 j = zz m (353 + j) from (H.2.2.1 3 (by omega)).1 j hj]
    rfl) 5 0 (0, 0, 0, 0) rfl (by rw [lp_0, lp_0, lp_0, lp_0])
  rw [k]
  have l2 : ∀ (f : Nat → Int32 → Int32), (∀ i, 5 ≤ i → i < 8 → ∀ x, f i x = x) → lp f 8 0 0 = lp f 5 0 0 := fun f hf => by
    rw [show (8 : Nat) = 5 + 3 from rfl, lp_add]
    exact lp_id f 8 _ 3 (0 + 5) rfl (fun i g1 g2 => hf i g1 g2 _)
  have l3 : ∀ k, k < 4 → ∀ n, n = 329 + 8 * k → lp (b_X5_sumFrom_1 m n 8) 8 0 0 = lp (b_X5_sumFrom_1 m n 8) 5 0 0 := fun k hk n en => l2 _ (fun i g1 g2 x => by
    show x + zz m (n + i) = x
    rw [en, (H.2.2.1 k hk).2 i g1 g2, Int32.add_zero])
  unfold v_X5_allLocks v_X5_sumFrom
  rw [l3 1 (by omega) 337 rfl, l3 2 (by omega) 345 rfl, l3 3 (by omega) 353 rfl, l2 (b_X5_allLocks_1 m) (fun i g1 g2 x => by
    unfold b_X5_allLocks_1
    rw [lk_0 H.1 g1 g2, Int32.add_zero])]
theorem wt_all (H : LA a (zz m) (s, 0)) : lp (fun r x => x + a 3 r) 6 0 0 = v_X5_sumFrom m 125 12 := by
  unfold v_X5_sumFrom
  rw [show (12 : Nat) = 6 + 6 from rfl, lp_add, lp_id (b_X5_sumFrom_1 m 125 12) 12 _ 6 (0 + 6) rfl (fun i g1 g2 => by
    show _ + zz m (125 + i) = _
    rw [H.2.1.2 i (by omega) g2, Int32.add_zero])]
  exact lp_cong 6 (fun r x hr => by
    obtain ⟨n, _, n2, n3, _⟩ := H.2.1.1 r hr
    show x + a 3 r = x + zz m (125 + r)
    rw [n2, n3]) 6 0 0 rfl
set_option maxRecDepth 100000 in
theorem r_agree (W : WR (setA M a) m s len K) (H : LA a (zz m) (s, 0)) : Rn ML_agree [vR 3 0 0, vR 8 0 0, vR 8 1 0, vR 8 2 0, vR 8 3 0, vR 8 4 0, vR 8 5 0, vR 8 6 0, vR 8 7 0, vR 8 8 0] (setA M a) (some (vI 1)) (setA M a) := by
  have S := W.1.1
  refine rn_of [some (vR 3 0 0), some (vR 8 0 0), some (vR 8 1 0), some (vR 8 2 0), some (vR 8 3 0), some (vR 8 4 0), some (vR 8 5 0), some (vR 8 6 0), some (vR 8 7 0), some (vR 8 8 0), none, none, none, none, none, none, none] rfl ?_
  refine an_b 12 (pc2 := 18) (L2 := [some (vR 3 0 0), some (vR 8 0 0), some (vR 8 1 0), some (vR 8 2 0), some (vR 8 3 0), some (vR 8 4 0), some (vR 8 5 0), some (vR 8 6 0), some (vR 8 7 0), some (vR 8 8 0), some (vI (0 : Int32)), some (vI (0 : Int32)), some (vI (0 : Int32)), some (vI (0 : Int32)), some (vI (0 : Int32)), some (vI (0 : Int32)), none]) (st2 := []) (m1 := (setA M a)) rfl ?_
  refine re_lp (agF a) (fun h z => (18, [some (vR 3 0 0), some (vR 8 0 0), some (vR 8 1 0), some (vR 8 2 0), some (vR 8 3 0), some (vR 8 4 0), some (vR 8 5 0), some (vR 8 6 0), some (vR 8 7 0), some (vR 8 8 0), some (vI z.1), some (vI z.2.1), some (vI z.2.2.1), some (vI z.2.2.2), some (vI (0 : Int32)), some (vI (nI h)), none], [], setA M a)) 5 (fun z => (251, [some (vR 3 0 0), some (vR 8 0 0), some (vR 8 1 0), some (vR 8 2 0), some (vR 8 3 0), some (vR 8 4 0), some (vR 8 5 0), some (vR 8 6 0), some (vR 8 7 0), some (vR 8 8 0), some (vI z.1), some (vI z.2.1), some (vI z.2.2.1), some (vI z.2.2.2), some (vI (0 : Int32)), some (vI (nI 5)), none], [], setA M a)) (fun h z hh v9 m9 K9 => ?_) (fun z v9 m9 K9 => ?_) 5 0 (0, 0, 0, 0) rfl _ _ ?_
  · show An ML_agree 18 [some (vR 3 0 0), some (vR 8 0 0), some (vR 8 1 0), some (vR 8 2 0), some (vR 8 3 0), some (vR 8 4 0), some (vR 8 5 0), some (vR 8 6 0), some (vR 8 7 0), some (vR 8 8 0), some (vI z.1), some (vI z.2.1), some (vI z.2.2.1), some (vI z.2.2.2), some (vI (0 : Int32)), some (vI (nI h)), none] [] (setA M a) v9 m9
    refine an_b 3 (pc2 := if (5 : Int32) ≤ (nI h) then 251 else 24) (L2 := [some (vR 3 0 0), some (vR 8 0 0), some (vR 8 1 0), some (vR 8 2 0), some (vR 8 3 0), some (vR 8 4 0), some (vR 8 5 0), some (vR 8 6 0), some (vR 8 7 0), some (vR 8 8 0), some (vI z.1), some (vI z.2.1), some (vI z.2.2.1), some (vI z.2.2.2), some (vI (0 : Int32)), some (vI (nI h)), none]) (st2 := []) (m1 := (setA M a)) rfl ?_
    refine an_f (nI_ge (b := 5) hh (by omega)) ?_
    refine an_b 2 (pc2 := 27) (L2 := [some (vR 3 0 0), some (vR 8 0 0), some (vR 8 1 0), some (vR 8 2 0), some (vR 8 3 0), some (vR 8 4 0), some (vR 8 5 0), some (vR 8 6 0), some (vR 8 7 0), some (vR 8 8 0), some (vI z.1), some (vI z.2.1), some (vI z.2.2.1), some (vI z.2.2.2), some (vI (0 : Int32)), some (vI (nI h)), some (vI (0 : Int32))]) (st2 := []) (m1 := (setA M a)) rfl ?_
    refine re_lp (lkF a h) (fun r u => (27, [some (vR 3 0 0), some (vR 8 0 0), some (vR 8 1 0), some (vR 8 2 0), some (vR 8 3 0), some (vR 8 4 0), some (vR 8 5 0), some (vR 8 6 0), some (vR 8 7 0), some (vR 8 8 0), some (vI u), some (vI z.2.1), some (vI z.2.2.1), some (vI z.2.2.2), some (vI (0 : Int32)), some (vI (nI h)), some (vI (nI r))], [], setA M a)) 6 (fun u => (79, [some (vR 3 0 0), some (vR 8 0 0), some (vR 8 1 0), some (vR 8 2 0), some (vR 8 3 0), some (vR 8 4 0), some (vR 8 5 0), some (vR 8 6 0), some (vR 8 7 0), some (vR 8 8 0), some (vI u), some (vI z.2.1), some (vI z.2.2.1), some (vI z.2.2.2), some (vI (0 : Int32)), some (vI (nI h)), some (vI (nI 6))], [], setA M a)) (fun r u hr v8 m8 K8 => ?_) (fun u v8 m8 K8 => ?_) 6 0 _ rfl _ _ ?_
    · have K7 : An ML_agree 27 [some (vR 3 0 0), some (vR 8 0 0), some (vR 8 1 0), some (vR 8 2 0), some (vR 8 3 0), some (vR 8 4 0), some (vR 8 5 0), some (vR 8 6 0), some (vR 8 7 0), some (vR 8 8 0), some (vI (lkF a h r u)), some (vI z.2.1), some (vI z.2.2.1), some (vI z.2.2.2), some (vI (0 : Int32)), some (vI (nI h)), some (vI (nI (r + 1)))] [] (setA M a) v8 m8 := K8
      rw [← nI_1] at K7
      have el : a 1 (6 * h + r) = zz m (5 + 12 * h + r) := H.1.1 h r hh hr
      show An ML_agree 27 [some (vR 3 0 0), some (vR 8 0 0), some (vR 8 1 0), some (vR 8 2 0), some (vR 8 3 0), some (vR 8 4 0), some (vR 8 5 0), some (vR 8 6 0), some (vR 8 7 0), some (vR 8 8 0), some (vI u), some (vI z.2.1), some (vI z.2.2.1), some (vI z.2.2.2), some (vI (0 : Int32)), some (vI (nI h)), some (vI (nI r))] [] (setA M a) v8 m8
      refine an_b 3 (pc2 := if (6 : Int32) ≤ (nI r) then 79 else 34) (L2 := [some (vR 3 0 0), some (vR 8 0 0), some (vR 8 1 0), some (vR 8 2 0), some (vR 8 3 0), some (vR 8 4 0), some (vR 8 5 0), some (vR 8 6 0), some (vR 8 7 0), some (vR 8 8 0), some (vI u), some (vI z.2.1), some (vI z.2.2.1), some (vI z.2.2.2), some (vI (0 : Int32)), some (vI (nI h)), some (vI (nI r))]) (st2 := []) (m1 := (setA M a)) rfl ?_
      refine an_f (nI_ge (b := 6) hr (by omega)) ?_
      refine an_b 3 (pc2 := 39) (L2 := [some (vR 3 0 0), some (vR 8 0 0), some (vR 8 1 0), some (vR 8 2 0), some (vR 8 3 0), some (vR 8 4 0), some (vR 8 5 0), some (vR 8 6 0), some (vR 8 7 0), some (vR 8 8 0), some (vI u), some (vI z.2.1), some (vI z.2.2.1), some (vI z.2.2.2), some (vI (0 : Int32)), some (vI (nI h)), some (vI (nI r))]) (st2 := [vI (nI r), vI (nI h), vR 3 0 0]) (m1 := (setA M a)) rfl ?_
      refine an_call (rc_lock W (show h < 8 by omega) (show r < 12 by omega)) rfl rfl rfl rfl ?_
      refine an_b 6 (pc2 := 51) (L2 := [some (vR 3 0 0), some (vR 8 0 0), some (vR 8 1 0), some (vR 8 2 0), some (vR 8 3 0), some (vR 8 4 0), some (vR 8 5 0), some (vR 8 6 0), some (vR 8 7 0), some (vR 8 8 0), some (vI u), some (vI z.2.1), some (vI z.2.2.1), some (vI z.2.2.2), some (vI (0 : Int32)), some (vI (nI h)), some (vI (nI r))]) (st2 := [vI (((6 : Int32) * (nI h)) + (nI r)), vR 8 1 0, vI (zz m (5 + 12 * h + r))]) (m1 := (setA M a)) rfl ?_
      refine an_la 1 ((6 * h) + r) (by decide) (by show _ < 30; omega) (by simp only [ix_lit, pk_mul, nI_add]) rfl ?_
      refine an_b 1 (pc2 := if (zz m (5 + 12 * h + r)) = (a 1 ((6 * h) + r)) then 57 else 55) (L2 := [some (vR 3 0 0), some (vR 8 0 0), some (vR 8 1 0), some (vR 8 2 0), some (vR 8 3 0), some (vR 8 4 0), some (vR 8 5 0), some (vR 8 6 0), some (vR 8 7 0), some (vR 8 8 0), some (vI u), some (vI z.2.1), some (vI z.2.2.1), some (vI z.2.2.2), some (vI (0 : Int32)), some (vI (nI h)), some (vI (nI r))]) (st2 := []) (m1 := (setA M a)) rfl ?_
      refine an_t el.symm ?_
      refine an_b 6 (pc2 := 66) (L2 := [some (vR 3 0 0), some (vR 8 0 0), some (vR 8 1 0), some (vR 8 2 0), some (vR 8 3 0), some (vR 8 4 0), some (vR 8 5 0), some (vR 8 6 0), some (vR 8 7 0), some (vR 8 8 0), some (vI u), some (vI z.2.1), some (vI z.2.2.1), some (vI z.2.2.2), some (vI (0 : Int32)), some (vI (nI h)), some (vI (nI r))]) (st2 := [vI (((6 : Int32) * (nI h)) + (nI r)), vR 8 1 0]) (m1 := (setA M a)) rfl ?_
      refine an_la 1 ((6 * h) + r) (by decide) (by show _ < 30; omega) (by simp only [ix_lit, pk_mul, nI_add]) rfl ?_
      refine an_b 1 (pc2 := if (a 1 ((6 * h) + r)) ≤ 0 then 73 else 70) (L2 := [some (vR 3 0 0), some (vR 8 0 0), some (vR 8 1 0), some (vR 8 2 0), some (vR 8 3 0), some (vR 8 4 0), some (vR 8 5 0), some (vR 8 6 0), some (vR 8 7 0), some (vR 8 8 0), some (vI u), some (vI z.2.1), some (vI z.2.2.1), some (vI z.2.2.2), some (vI (0 : Int32)), some (vI (nI h)), some (vI (nI r))]) (st2 := []) (m1 := (setA M a)) rfl ?_
      unfold lkF at K7
      by_cases c : a 1 (6 * h + r) ≤ 0
      · rw [if_pos c] at K7
        refine an_t c ?_
        refine an_b 2 (pc2 := 27) (L2 := [some (vR 3 0 0), some (vR 8 0 0), some (vR 8 1 0), some (vR 8 2 0), some (vR 8 3 0), some (vR 8 4 0), some (vR 8 5 0), some (vR 8 6 0), some (vR 8 7 0), some (vR 8 8 0), some (vI u), some (vI z.2.1), some (vI z.2.2.1), some (vI z.2.2.2), some (vI (0 : Int32)), some (vI (nI h)), some (vI ((nI r) + (1 : Int32)))]) (st2 := []) (m1 := (setA M a)) rfl ?_
        exact K7
      · rw [if_neg c] at K7
        refine an_f c ?_
        refine an_b 1 (pc2 := 73) (L2 := [some (vR 3 0 0), some (vR 8 0 0), some (vR 8 1 0), some (vR 8 2 0), some (vR 8 3 0), some (vR 8 4 0), some (vR 8 5 0), some (vR 8 6 0), some (vR 8 7 0), some (vR 8 8 0), some (vI (u + (1 : Int32))), some (vI z.2.1), some (vI z.2.2.1), some (vI z.2.2.2), some (vI (0 : Int32)), some (vI (nI h)), some (vI (nI r))]) (st2 := []) (m1 := (setA M a)) rfl ?_
        refine an_b 2 (pc2 := 27) (L2 := [some (vR 3 0 0), some (vR 8 0 0), some (vR 8 1 0), some (vR 8 2 0), some (vR 8 3 0), some (vR 8 4 0), some (vR 8 5 0), some (vR 8 6 0), some (vR 8 7 0), some (vR 8 8 0), some (vI (u + (1 : Int32))), some (vI z.2.1), some (vI z.2.2.1), some (vI z.2.2.2), some (vI (0 : Int32)), some (vI (nI h)), some (vI ((nI r) + (1 : Int32)))]) (st2 := []) (m1 := (setA M a)) rfl ?_
        exact K7
    · show An ML_agree 27 [some (vR 3 0 0), some (vR 8 0 0), some (vR 8 1 0), some (vR 8 2 0), some (vR 8 3 0), some (vR 8 4 0), some (vR 8 5 0), some (vR 8 6 0), some (vR 8 7 0), some (vR 8 8 0), some (vI u), some (vI z.2.1), some (vI z.2.2.1), some (vI z.2.2.2), some (vI (0 : Int32)), some (vI (nI h)), some (vI (nI 6))] [] (setA M a) v8 m8
      refine an_b 3 (pc2 := if (6 : Int32) ≤ (nI 6) then 79 else 34) (L2 := [some (vR 3 0 0), some (vR 8 0 0), some (vR 8 1 0), some (vR 8 2 0), some (vR 8 3 0), some (vR 8 4 0), some (vR 8 5 0), some (vR 8 6 0), some (vR 8 7 0), some (vR 8 8 0), some (vI u), some (vI z.2.1), some (vI z.2.2.1), some (vI z.2.2.2), some (vI (0 : Int32)), some (vI (nI h)), some (vI (nI 6))]) (st2 := []) (m1 := (setA M a)) rfl ?_
      refine an_t (nI_le (Nat.le_refl 6) (by omega)) ?_
      exact K8
    have a1 : v_X5_handNow m h 1 = v_X5_workOf m h := rfl
    have a2 := hand_2 W (show h < 8 by omega)
    have a4 : v_X5_handNow m h 4 = v_X5_waitsNow m (nI h) := rfl
    have a5 : v_X5_handNow m h 5 = a 5 h := ((H.2.2.1 0 (by omega)).1 h hh).symm
    have a6 : v_X5_handNow m h 6 = a 6 h := ((H.2.2.1 1 (by omega)).1 h hh).symm
    have a7 : v_X5_handNow m h 7 = a 7 h := ((H.2.2.1 2 (by omega)).1 h hh).symm
    have a8 : v_X5_handNow m h 8 = a 8 h := ((H.2.2.1 3 (by omega)).1 h hh).symm
    show An ML_agree 79 [some (vR 3 0 0), some (vR 8 0 0), some (vR 8 1 0), some (vR 8 2 0), some (vR 8 3 0), some (vR 8 4 0), some (vR 8 5 0), some (vR 8 6 0), some (vR 8 7 0), some (vR 8 8 0), some (vI (lp (lkF a h) 6 0 z.1)), some (vI z.2.1), some (vI z.2.2.1), some (vI z.2.2.2), some (vI (0 : Int32)), some (vI (nI h)), some (vI (nI 6))] [] (setA M a) _ _
    refine an_b 3 (pc2 := 83) (L2 := [some (vR 3 0 0), some (vR 8 0 0), some (vR 8 1 0), some (vR 8 2 0), some (vR 8 3 0), some (vR 8 4 0), some (vR 8 5 0), some (vR 8 6 0), some (vR 8 7 0), some (vR 8 8 0), some (vI (lp (lkF a h) 6 0 z.1)), some (vI z.2.1), some (vI z.2.2.1), some (vI z.2.2.2), some (vI (0 : Int32)), some (vI (nI h)), some (vI (nI 6))]) (st2 := [vI (1 : Int32), vI (nI h), vR 3 0 0]) (m1 := (setA M a)) rfl ?_
    refine an_call (rc_hand W (show h < 8 by omega) (w := 1) (by omega)) rfl rfl rfl rfl ?_
    refine an_b 2 (pc2 := 89) (L2 := [some (vR 3 0 0), some (vR 8 0 0), some (vR 8 1 0), some (vR 8 2 0), some (vR 8 3 0), some (vR 8 4 0), some (vR 8 5 0), some (vR 8 6 0), some (vR 8 7 0), some (vR 8 8 0), some (vI (lp (lkF a h) 6 0 z.1)), some (vI z.2.1), some (vI z.2.2.1), some (vI z.2.2.2), some (vI (0 : Int32)), some (vI (nI h)), some (vI (nI 6))]) (st2 := [vI (nI h), vR 8 1 0, vI (v_X5_handNow m h 1)]) (m1 := (setA M a)) rfl ?_
    refine an_call (r_work H.1 hh) rfl rfl rfl rfl ?_
    refine an_b 1 (pc2 := if ¬ (v_X5_handNow m h 1) = (v_X5_workOf m h) then 213 else 95) (L2 := [some (vR 3 0 0), some (vR 8 0 0), some (vR 8 1 0), some (vR 8 2 0), some (vR 8 3 0), some (vR 8 4 0), some (vR 8 5 0), some (vR 8 6 0), some (vR 8 7 0), some (vR 8 8 0), some (vI (lp (lkF a h) 6 0 z.1)), some (vI z.2.1), some (vI z.2.2.1), some (vI z.2.2.2), some (vI (0 : Int32)), some (vI (nI h)), some (vI (nI 6))]) (st2 := []) (m1 := (setA M a)) rfl ?_
    refine an_f (fun u => u a1) ?_
    refine an_b 3 (pc2 := 99) (L2 := [some (vR 3 0 0), some (vR 8 0 0), some (vR 8 1 0), some (vR 8 2 0), some (vR 8 3 0), some (vR 8 4 0), some (vR 8 5 0), some (vR 8 6 0), some (vR 8 7 0), some (vR 8 8 0), some (vI (lp (lkF a h) 6 0 z.1)), some (vI z.2.1), some (vI z.2.2.1), some (vI z.2.2.2), some (vI (0 : Int32)), some (vI (nI h)), some (vI (nI 6))]) (st2 := [vI (2 : Int32), vI (nI h), vR 3 0 0]) (m1 := (setA M a)) rfl ?_
    refine an_call (rc_hand W (show h < 8 by omega) (w := 2) (by omega)) rfl rfl rfl rfl ?_
    refine an_b 3 (pc2 := 107) (L2 := [some (vR 3 0 0), some (vR 8 0 0), some (vR 8 1 0), some (vR 8 2 0), some (vR 8 3 0), some (vR 8 4 0), some (vR 8 5 0), some (vR 8 6 0), some (vR 8 7 0), some (vR 8 8 0), some (vI (lp (lkF a h) 6 0 z.1)), some (vI z.2.1), some (vI z.2.2.1), some (vI z.2.2.2), some (vI (0 : Int32)), some (vI (nI h)), some (vI (nI 6))]) (st2 := [vI (nI h), vR 8 3 0, vR 8 2 0, vI (v_X5_handNow m h 2)]) (m1 := (setA M a)) rfl ?_
    refine an_call (r_rowOf S.2.1 H.2.1 hh) rfl rfl rfl rfl ?_
    refine an_b 1 (pc2 := if ¬ (v_X5_handNow m h 2) = (clT (setA M a) 0 1 h) then 213 else 113) (L2 := [some (vR 3 0 0), some (vR 8 0 0), some (vR 8 1 0), some (vR 8 2 0), some (vR 8 3 0), some (vR 8 4 0), some (vR 8 5 0), some (vR 8 6 0), some (vR 8 7 0), some (vR 8 8 0), some (vI (lp (lkF a h) 6 0 z.1)), some (vI z.2.1), some (vI z.2.2.1), some (vI z.2.2.2), some (vI (0 : Int32)), some (vI (nI h)), some (vI (nI 6))]) (st2 := []) (m1 := (setA M a)) rfl ?_
    refine an_f (fun u => u a2) ?_
    refine an_b 3 (pc2 := 117) (L2 := [some (vR 3 0 0), some (vR 8 0 0), some (vR 8 1 0), some (vR 8 2 0), some (vR 8 3 0), some (vR 8 4 0), some (vR 8 5 0), some (vR 8 6 0), some (vR 8 7 0), some (vR 8 8 0), some (vI (lp (lkF a h) 6 0 z.1)), some (vI z.2.1), some (vI z.2.2.1), some (vI z.2.2.2), some (vI (0 : Int32)), some (vI (nI h)), some (vI (nI 6))]) (st2 := [vI (4 : Int32), vI (nI h), vR 3 0 0]) (m1 := (setA M a)) rfl ?_
    refine an_call (rc_hand W (show h < 8 by omega) (w := 4) (by omega)) rfl rfl rfl rfl ?_
    refine an_b 4 (pc2 := 126) (L2 := [some (vR 3 0 0), some (vR 8 0 0), some (vR 8 1 0), some (vR 8 2 0), some (vR 8 3 0), some (vR 8 4 0), some (vR 8 5 0), some (vR 8 6 0), some (vR 8 7 0), some (vR 8 8 0), some (vI (lp (lkF a h) 6 0 z.1)), some (vI z.2.1), some (vI z.2.2.1), some (vI z.2.2.2), some (vI (0 : Int32)), some (vI (nI h)), some (vI (nI 6))]) (st2 := [vI (nI h), vR 8 3 0, vR 8 2 0, vR 8 1 0, vI (v_X5_handNow m h 4)]) (m1 := (setA M a)) rfl ?_
    refine an_call (r_waits S.2.1 H.2.1 H.1 hh) rfl rfl rfl rfl ?_
    refine an_b 1 (pc2 := if ¬ (v_X5_handNow m h 4) = (v_X5_waitsNow m (nI h)) then 213 else 132) (L2 := [some (vR 3 0 0), some (vR 8 0 0), some (vR 8 1 0), some (vR 8 2 0), some (vR 8 3 0), some (vR 8 4 0), some (vR 8 5 0), some (vR 8 6 0), some (vR 8 7 0), some (vR 8 8 0), some (vI (lp (lkF a h) 6 0 z.1)), some (vI z.2.1), some (vI z.2.2.1), some (vI z.2.2.2), some (vI (0 : Int32)), some (vI (nI h)), some (vI (nI 6))]) (st2 := []) (m1 := (setA M a)) rfl ?_
    refine an_f (fun u => u a4) ?_
    refine an_b 3 (pc2 := 136) (L2 := [some (vR 3 0 0), some (vR 8 0 0), some (vR 8 1 0), some (vR 8 2 0), some (vR 8 3 0), some (vR 8 4 0), some (vR 8 5 0), some (vR 8 6 0), some (vR 8 7 0), some (vR 8 8 0), some (vI (lp (lkF a h) 6 0 z.1)), some (vI z.2.1), some (vI z.2.2.1), some (vI z.2.2.2), some (vI (0 : Int32)), some (vI (nI h)), some (vI (nI 6))]) (st2 := [vI (5 : Int32), vI (nI h), vR 3 0 0]) (m1 := (setA M a)) rfl ?_
    refine an_call (rc_hand W (show h < 8 by omega) (w := 5) (by omega)) rfl rfl rfl rfl ?_
    refine an_b 2 (pc2 := 143) (L2 := [some (vR 3 0 0), some (vR 8 0 0), some (vR 8 1 0), some (vR 8 2 0), some (vR 8 3 0), some (vR 8 4 0), some (vR 8 5 0), some (vR 8 6 0), some (vR 8 7 0), some (vR 8 8 0), some (vI (lp (lkF a h) 6 0 z.1)), some (vI z.2.1), some (vI z.2.2.1), some (vI z.2.2.2), some (vI (0 : Int32)), some (vI (nI h)), some (vI (nI 6))]) (st2 := [vI (nI h), vR 8 5 0, vI (v_X5_handNow m h 5)]) (m1 := (setA M a)) rfl ?_
    refine an_la 5 h (by decide) (by show _ < 5; omega) rfl rfl ?_
    refine an_b 1 (pc2 := if ¬ (v_X5_handNow m h 5) = (a 5 h) then 213 else 147) (L2 := [some (vR 3 0 0), some (vR 8 0 0), some (vR 8 1 0), some (vR 8 2 0), some (vR 8 3 0), some (vR 8 4 0), some (vR 8 5 0), some (vR 8 6 0), some (vR 8 7 0), some (vR 8 8 0), some (vI (lp (lkF a h) 6 0 z.1)), some (vI z.2.1), some (vI z.2.2.1), some (vI z.2.2.2), some (vI (0 : Int32)), some (vI (nI h)), some (vI (nI 6))]) (st2 := []) (m1 := (setA M a)) rfl ?_
    refine an_f (fun u => u a5) ?_
    refine an_b 3 (pc2 := 152) (L2 := [some (vR 3 0 0), some (vR 8 0 0), some (vR 8 1 0), some (vR 8 2 0), some (vR 8 3 0), some (vR 8 4 0), some (vR 8 5 0), some (vR 8 6 0), some (vR 8 7 0), some (vR 8 8 0), some (vI (lp (lkF a h) 6 0 z.1)), some (vI z.2.1), some (vI z.2.2.1), some (vI z.2.2.2), some (vI (0 : Int32)), some (vI (nI h)), some (vI (nI 6))]) (st2 := [vI (6 : Int32), vI (nI h), vR 3 0 0]) (m1 := (setA M a)) rfl ?_
    refine an_call (rc_hand W (show h < 8 by omega) (w := 6) (by omega)) rfl rfl rfl rfl ?_
    refine an_b 2 (pc2 := 159) (L2 := [some (vR 3 0 0), some (vR 8 0 0), some (vR 8 1 0), some (vR 8 2 0), some (vR 8 3 0), some (vR 8 4 0), some (vR 8 5 0), some (vR 8 6 0), some (vR 8 7 0), some (vR 8 8 0), some (vI (lp (lkF a h) 6 0 z.1)), some (vI z.2.1), some (vI z.2.2.1), some (vI z.2.2.2), some (vI (0 : Int32)), some (vI (nI h)), some (vI (nI 6))]) (st2 := [vI (nI h), vR 8 6 0, vI (v_X5_handNow m h 6)]) (m1 := (setA M a)) rfl ?_
    refine an_la 6 h (by decide) (by show _ < 5; omega) rfl rfl ?_
    refine an_b 1 (pc2 := if ¬ (v_X5_handNow m h 6) = (a 6 h) then 213 else 163) (L2 := [some (vR 3 0 0), some (vR 8 0 0), some (vR 8 1 0), some (vR 8 2 0), some (vR 8 3 0), some (vR 8 4 0), some (vR 8 5 0), some (vR 8 6 0), some (vR 8 7 0), some (vR 8 8 0), some (vI (lp (lkF a h) 6 0 z.1)), some (vI z.2.1), some (vI z.2.2.1), some (vI z.2.2.2), some (vI (0 : Int32)), some (vI (nI h)), some (vI (nI 6))]) (st2 := []) (m1 := (setA M a)) rfl ?_
    refine an_f (fun u => u a6) ?_
    refine an_b 3 (pc2 := 168) (L2 := [some (vR 3 0 0), some (vR 8 0 0), some (vR 8 1 0), some (vR 8 2 0), some (vR 8 3 0), some (vR 8 4 0), some (vR 8 5 0), some (vR 8 6 0), some (vR 8 7 0), some (vR 8 8 0), some (vI (lp (lkF a h) 6 0 z.1)), some (vI z.2.1), some (vI z.2.2.1), some (vI z.2.2.2), some (vI (0 : Int32)), some (vI (nI h)), some (vI (nI 6))]) (st2 := [vI (7 : Int32), vI (nI h), vR 3 0 0]) (m1 := (setA M a)) rfl ?_
    refine an_call (rc_hand W (show h < 8 by omega) (w := 7) (by omega)) rfl rfl rfl rfl ?_
    refine an_b 2 (pc2 := 175) (L2 := [some (vR 3 0 0), some (vR 8 0 0), some (vR 8 1 0), some (vR 8 2 0), some (vR 8 3 0), some (vR 8 4 0), some (vR 8 5 0), some (vR 8 6 0), some (vR 8 7 0), some (vR 8 8 0), some (vI (lp (lkF a h) 6 0 z.1)), some (vI z.2.1), some (vI z.2.2.1), some (vI z.2.2.2), some (vI (0 : Int32)), some (vI (nI h)), some (vI (nI 6))]) (st2 := [vI (nI h), vR 8 7 0, vI (v_X5_handNow m h 7)]) (m1 := (setA M a)) rfl ?_
    refine an_la 7 h (by decide) (by show _ < 5; omega) rfl rfl ?_
    refine an_b 1 (pc2 := if ¬ (v_X5_handNow m h 7) = (a 7 h) then 213 else 179) (L2 := [some (vR 3 0 0), some (vR 8 0 0), some (vR 8 1 0), some (vR 8 2 0), some (vR 8 3 0), some (vR 8 4 0), some (vR 8 5 0), some (vR 8 6 0), some (vR 8 7 0), some (vR 8 8 0), some (vI (lp (lkF a h) 6 0 z.1)), some (vI z.2.1), some (vI z.2.2.1), some (vI z.2.2.2), some (vI (0 : Int32)), some (vI (nI h)), some (vI (nI 6))]) (st2 := []) (m1 := (setA M a)) rfl ?_
    refine an_f (fun u => u a7) ?_
    refine an_b 3 (pc2 := 184) (L2 := [some (vR 3 0 0), some (vR 8 0 0), some (vR 8 1 0), some (vR 8 2 0), some (vR 8 3 0), some (vR 8 4 0), some (vR 8 5 0), some (vR 8 6 0), some (vR 8 7 0), some (vR 8 8 0), some (vI (lp (lkF a h) 6 0 z.1)), some (vI z.2.1), some (vI z.2.2.1), some (vI z.2.2.2), some (vI (0 : Int32)), some (vI (nI h)), some (vI (nI 6))]) (st2 := [vI (8 : Int32), vI (nI h), vR 3 0 0]) (m1 := (setA M a)) rfl ?_
    refine an_call (rc_hand W (show h < 8 by omega) (w := 8) (by omega)) rfl rfl rfl rfl ?_
    refine an_b 2 (pc2 := 191) (L2 := [some (vR 3 0 0), some (vR 8 0 0), some (vR 8 1 0), some (vR 8 2 0), some (vR 8 3 0), some (vR 8 4 0), some (vR 8 5 0), some (vR 8 6 0), some (vR 8 7 0), some (vR 8 8 0), some (vI (lp (lkF a h) 6 0 z.1)), some (vI z.2.1), some (vI z.2.2.1), some (vI z.2.2.2), some (vI (0 : Int32)), some (vI (nI h)), some (vI (nI 6))]) (st2 := [vI (nI h), vR 8 8 0, vI (v_X5_handNow m h 8)]) (m1 := (setA M a)) rfl ?_
    refine an_la 8 h (by decide) (by show _ < 5; omega) rfl rfl ?_
    refine an_b 1 (pc2 := if ¬ (v_X5_handNow m h 8) = (a 8 h) then 213 else 195) (L2 := [some (vR 3 0 0), some (vR 8 0 0), some (vR 8 1 0), some (vR 8 2 0), some (vR 8 3 0), some (vR 8 4 0), some (vR 8 5 0), some (vR 8 6 0), some (vR 8 7 0), some (vR 8 8 0), some (vI (lp (lkF a h) 6 0 z.1)), some (vI z.2.1), some (vI z.2.2.1), some (vI z.2.2.2), some (vI (0 : Int32)), some (vI (nI h)), some (vI (nI 6))]) (st2 := []) (m1 := (setA M a)) rfl ?_
    refine an_f (fun u => u a8) ?_
    refine an_b 2 (pc2 := 198) (L2 := [some (vR 3 0 0), some (vR 8 0 0), some (vR 8 1 0), some (vR 8 2 0), some (vR 8 3 0), some (vR 8 4 0), some (vR 8 5 0), some (vR 8 6 0), some (vR 8 7 0), some (vR 8 8 0), some (vI (lp (lkF a h) 6 0 z.1)), some (vI z.2.1), some (vI z.2.2.1), some (vI z.2.2.2), some (vI (0 : Int32)), some (vI (nI h)), some (vI (nI 6))]) (st2 := [vI (nI h), vR 3 0 0]) (m1 := (setA M a)) rfl ?_
    refine an_call (rc_waitsFor W (show h < 8 by omega)) rfl rfl rfl rfl ?_
    refine an_b 4 (pc2 := 207) (L2 := [some (vR 3 0 0), some (vR 8 0 0), some (vR 8 1 0), some (vR 8 2 0), some (vR 8 3 0), some (vR 8 4 0), some (vR 8 5 0), some (vR 8 6 0), some (vR 8 7 0), some (vR 8 8 0), some (vI (lp (lkF a h) 6 0 z.1)), some (vI z.2.1), some (vI z.2.2.1), some (vI z.2.2.2), some (vI (0 : Int32)), some (vI (nI h)), some (vI (nI 6))]) (st2 := [vI (nI h), vR 8 3 0, vR 8 2 0, vR 8 1 0, vI (v_X5_waitsOver m (nI h))]) (m1 := (setA M a)) rfl ?_
    refine an_call (r_over S.2.1 H.2.1 H.1 hh) rfl rfl rfl rfl ?_
    refine an_b 1 (pc2 := if (v_X5_waitsOver m (nI h)) = (v_X5_waitsOver m (nI h)) then 215 else 213) (L2 := [some (vR 3 0 0), some (vR 8 0 0), some (vR 8 1 0), some (vR 8 2 0), some (vR 8 3 0), some (vR 8 4 0), some (vR 8 5 0), some (vR 8 6 0), some (vR 8 7 0), some (vR 8 8 0), some (vI (lp (lkF a h) 6 0 z.1)), some (vI z.2.1), some (vI z.2.2.1), some (vI z.2.2.2), some (vI (0 : Int32)), some (vI (nI h)), some (vI (nI 6))]) (st2 := []) (m1 := (setA M a)) rfl ?_
    refine an_t rfl ?_
    refine an_b 3 (pc2 := 221) (L2 := [some (vR 3 0 0), some (vR 8 0 0), some (vR 8 1 0), some (vR 8 2 0), some (vR 8 3 0), some (vR 8 4 0), some (vR 8 5 0), some (vR 8 6 0), some (vR 8 7 0), some (vR 8 8 0), some (vI (lp (lkF a h) 6 0 z.1)), some (vI z.2.1), some (vI z.2.2.1), some (vI z.2.2.2), some (vI (0 : Int32)), some (vI (nI h)), some (vI (nI 6))]) (st2 := [vI (nI h), vR 8 6 0, vI z.2.1]) (m1 := (setA M a)) rfl ?_
    refine an_la 6 h (by decide) (by show _ < 5; omega) rfl rfl ?_
    refine an_b 5 (pc2 := 231) (L2 := [some (vR 3 0 0), some (vR 8 0 0), some (vR 8 1 0), some (vR 8 2 0), some (vR 8 3 0), some (vR 8 4 0), some (vR 8 5 0), some (vR 8 6 0), some (vR 8 7 0), some (vR 8 8 0), some (vI (lp (lkF a h) 6 0 z.1)), some (vI (z.2.1 + (a 6 h))), some (vI z.2.2.1), some (vI z.2.2.2), some (vI (0 : Int32)), some (vI (nI h)), some (vI (nI 6))]) (st2 := [vI (nI h), vR 8 7 0, vI z.2.2.1]) (m1 := (setA M a)) rfl ?_
    refine an_la 7 h (by decide) (by show _ < 5; omega) rfl rfl ?_
    refine an_b 5 (pc2 := 241) (L2 := [some (vR 3 0 0), some (vR 8 0 0), some (vR 8 1 0), some (vR 8 2 0), some (vR 8 3 0), some (vR 8 4 0), some (vR 8 5 0), some (vR 8 6 0), some (vR 8 7 0), some (vR 8 8 0), some (vI (lp (lkF a h) 6 0 z.1)), some (vI (z.2.1 + (a 6 h))), some (vI (z.2.2.1 + (a 7 h))), some (vI z.2.2.2), some (vI (0 : Int32)), some (vI (nI h)), some (vI (nI 6))]) (st2 := [vI (nI h), vR 8 8 0, vI z.2.2.2]) (m1 := (setA M a)) rfl ?_
    refine an_la 8 h (by decide) (by show _ < 5; omega) rfl rfl ?_
    refine an_b 4 (pc2 := 18) (L2 := [some (vR 3 0 0), some (vR 8 0 0), some (vR 8 1 0), some (vR 8 2 0), some (vR 8 3 0), some (vR 8 4 0), some (vR 8 5 0), some (vR 8 6 0), some (vR 8 7 0), some (vR 8 8 0), some (vI (lp (lkF a h) 6 0 z.1)), some (vI (z.2.1 + (a 6 h))), some (vI (z.2.2.1 + (a 7 h))), some (vI (z.2.2.2 + (a 8 h))), some (vI (0 : Int32)), some (vI ((nI h) + (1 : Int32))), some (vI (nI 6))]) (st2 := []) (m1 := (setA M a)) rfl ?_
    refine an_weak (L := [some (vR 3 0 0), some (vR 8 0 0), some (vR 8 1 0), some (vR 8 2 0), some (vR 8 3 0), some (vR 8 4 0), some (vR 8 5 0), some (vR 8 6 0), some (vR 8 7 0), some (vR 8 8 0), some (vI (lp (lkF a h) 6 0 z.1)), some (vI (z.2.1 + a 6 h)), some (vI (z.2.2.1 + a 7 h)), some (vI (z.2.2.2 + a 8 h)), some (vI (0 : Int32)), some (vI (nI (h + 1))), none]) ⟨rfl, rfl, rfl, rfl, rfl, rfl, rfl, rfl, rfl, rfl, rfl, rfl, rfl, rfl, rfl, by rw [nI_1], trivial⟩ K9
  · show An ML_agree 18 [some (vR 3 0 0), some (vR 8 0 0), some (vR 8 1 0), some (vR 8 2 0), some (vR 8 3 0), some (vR 8 4 0), some (vR 8 5 0), some (vR 8 6 0), some (vR 8 7 0), some (vR 8 8 0), some (vI z.1), some (vI z.2.1), some (vI z.2.2.1), some (vI z.2.2.2), some (vI (0 : Int32)), some (vI (nI 5)), none] [] (setA M a) v9 m9
    refine an_b 3 (pc2 := if (5 : Int32) ≤ (nI 5) then 251 else 24) (L2 := [some (vR 3 0 0), some (vR 8 0 0), some (vR 8 1 0), some (vR 8 2 0), some (vR 8 3 0), some (vR 8 4 0), some (vR 8 5 0), some (vR 8 6 0), some (vR 8 7 0), some (vR 8 8 0), some (vI z.1), some (vI z.2.1), some (vI z.2.2.1), some (vI z.2.2.2), some (vI (0 : Int32)), some (vI (nI 5)), none]) (st2 := []) (m1 := (setA M a)) rfl ?_
    refine an_t (nI_le (Nat.le_refl 5) (by omega)) ?_
    exact K9
  rw [ag_all H]
  show An ML_agree 251 [some (vR 3 0 0), some (vR 8 0 0), some (vR 8 1 0), some (vR 8 2 0), some (vR 8 3 0), some (vR 8 4 0), some (vR 8 5 0), some (vR 8 6 0), some (vR 8 7 0), some (vR 8 8 0), some (vI (v_X5_allLocks m)), some (vI (v_X5_sumFrom m 337 8)), some (vI (v_X5_sumFrom m 345 8)), some (vI (v_X5_sumFrom m 353 8)), some (vI (0 : Int32)), some (vI (nI 5)), none] [] (setA M a) (.inl (some (vI 1))) (setA M a)
  refine an_b 2 (pc2 := 254) (L2 := [some (vR 3 0 0), some (vR 8 0 0), some (vR 8 1 0), some (vR 8 2 0), some (vR 8 3 0), some (vR 8 4 0), some (vR 8 5 0), some (vR 8 6 0), some (vR 8 7 0), some (vR 8 8 0), some (vI (v_X5_allLocks m)), some (vI (v_X5_sumFrom m 337 8)), some (vI (v_X5_sumFrom m 345 8)), some (vI (v_X5_sumFrom m 353 8)), some (vI (0 : Int32)), some (vI (0 : Int32)), none]) (st2 := []) (m1 := (setA M a)) rfl ?_
  refine re_lp (fun r x => x + a 3 r) (fun r u => (254, [some (vR 3 0 0), some (vR 8 0 0), some (vR 8 1 0), some (vR 8 2 0), some (vR 8 3 0), some (vR 8 4 0), some (vR 8 5 0), some (vR 8 6 0), some (vR 8 7 0), some (vR 8 8 0), some (vI (v_X5_allLocks m)), some (vI (v_X5_sumFrom m 337 8)), some (vI (v_X5_sumFrom m 345 8)), some (vI (v_X5_sumFrom m 353 8)), some (vI u), some (vI (nI r)), none], [], setA M a)) 6 (fun u => (402, [some (vR 3 0 0), some (vR 8 0 0), some (vR 8 1 0), some (vR 8 2 0), some (vR 8 3 0), some (vR 8 4 0), some (vR 8 5 0), some (vR 8 6 0), some (vR 8 7 0), some (vR 8 8 0), some (vI (v_X5_allLocks m)), some (vI (v_X5_sumFrom m 337 8)), some (vI (v_X5_sumFrom m 345 8)), some (vI (v_X5_sumFrom m 353 8)), some (vI u), some (vI (nI 6)), none], [], setA M a)) (fun r u hr v8 m8 K8 => ?_) (fun u v8 m8 K8 => ?_) 6 0 0 rfl _ _ ?_
  · obtain ⟨n, n5, n2, n3, n4⟩ := H.2.1.1 r hr
    have b0 : v_X5_rowNow m r (nI 0) = a 4 r := (H.2.2.2.1 r hr).symm
    have b3 : v_X5_rowNow m r (nI 3) = a 3 r := by
      show zz m (125 + r) = a 3 r
      rw [n2, n3]
    show An ML_agree 254 [some (vR 3 0 0), some (vR 8 0 0), some (vR 8 1 0), some (vR 8 2 0), some (vR 8 3 0), some (vR 8 4 0), some (vR 8 5 0), some (vR 8 6 0), some (vR 8 7 0), some (vR 8 8 0), some (vI (v_X5_allLocks m)), some (vI (v_X5_sumFrom m 337 8)), some (vI (v_X5_sumFrom m 345 8)), some (vI (v_X5_sumFrom m 353 8)), some (vI u), some (vI (nI r)), none] [] (setA M a) v8 m8
    refine an_b 3 (pc2 := if (6 : Int32) ≤ (nI r) then 402 else 261) (L2 := [some (vR 3 0 0), some (vR 8 0 0), some (vR 8 1 0), some (vR 8 2 0), some (vR 8 3 0), some (vR 8 4 0), some (vR 8 5 0), some (vR 8 6 0), some (vR 8 7 0), some (vR 8 8 0), some (vI (v_X5_allLocks m)), some (vI (v_X5_sumFrom m 337 8)), some (vI (v_X5_sumFrom m 345 8)), some (vI (v_X5_sumFrom m 353 8)), some (vI u), some (vI (nI r)), none]) (st2 := []) (m1 := (setA M a)) rfl ?_
    refine an_f (nI_ge (b := 6) hr (by omega)) ?_
    refine an_b 3 (pc2 := 267) (L2 := [some (vR 3 0 0), some (vR 8 0 0), some (vR 8 1 0), some (vR 8 2 0), some (vR 8 3 0), some (vR 8 4 0), some (vR 8 5 0), some (vR 8 6 0), some (vR 8 7 0), some (vR 8 8 0), some (vI (v_X5_allLocks m)), some (vI (v_X5_sumFrom m 337 8)), some (vI (v_X5_sumFrom m 345 8)), some (vI (v_X5_sumFrom m 353 8)), some (vI u), some (vI (nI r)), none]) (st2 := [vI (nI r), vR 8 3 0, vI u]) (m1 := (setA M a)) rfl ?_
    refine an_la 3 r (by decide) (by show _ < 6; omega) rfl rfl ?_
    refine an_b 5 (pc2 := 275) (L2 := [some (vR 3 0 0), some (vR 8 0 0), some (vR 8 1 0), some (vR 8 2 0), some (vR 8 3 0), some (vR 8 4 0), some (vR 8 5 0), some (vR 8 6 0), some (vR 8 7 0), some (vR 8 8 0), some (vI (v_X5_allLocks m)), some (vI (v_X5_sumFrom m 337 8)), some (vI (v_X5_sumFrom m 345 8)), some (vI (v_X5_sumFrom m 353 8)), some (vI (u + (a 3 r))), some (vI (nI r)), none]) (st2 := [vI (0 : Int32), vI (nI r), vR 3 0 0]) (m1 := (setA M a)) rfl ?_
    refine an_call (rc_row W (show r < 12 by omega) (w := 0) (by omega)) rfl rfl rfl rfl ?_
    refine an_b 2 (pc2 := 282) (L2 := [some (vR 3 0 0), some (vR 8 0 0), some (vR 8 1 0), some (vR 8 2 0), some (vR 8 3 0), some (vR 8 4 0), some (vR 8 5 0), some (vR 8 6 0), some (vR 8 7 0), some (vR 8 8 0), some (vI (v_X5_allLocks m)), some (vI (v_X5_sumFrom m 337 8)), some (vI (v_X5_sumFrom m 345 8)), some (vI (v_X5_sumFrom m 353 8)), some (vI (u + (a 3 r))), some (vI (nI r)), none]) (st2 := [vI (nI r), vR 8 4 0, vI (v_X5_rowNow m r (nI 0))]) (m1 := (setA M a)) rfl ?_
    refine an_la 4 r (by decide) (by show _ < 6; omega) rfl rfl ?_
    refine an_b 1 (pc2 := if ¬ (v_X5_rowNow m r (nI 0)) = (a 4 r) then 301 else 286) (L2 := [some (vR 3 0 0), some (vR 8 0 0), some (vR 8 1 0), some (vR 8 2 0), some (vR 8 3 0), some (vR 8 4 0), some (vR 8 5 0), some (vR 8 6 0), some (vR 8 7 0), some (vR 8 8 0), some (vI (v_X5_allLocks m)), some (vI (v_X5_sumFrom m 337 8)), some (vI (v_X5_sumFrom m 345 8)), some (vI (v_X5_sumFrom m 353 8)), some (vI (u + (a 3 r))), some (vI (nI r)), none]) (st2 := []) (m1 := (setA M a)) rfl ?_
    refine an_f (fun k => k b0) ?_
    refine an_b 3 (pc2 := 290) (L2 := [some (vR 3 0 0), some (vR 8 0 0), some (vR 8 1 0), some (vR 8 2 0), some (vR 8 3 0), some (vR 8 4 0), some (vR 8 5 0), some (vR 8 6 0), some (vR 8 7 0), some (vR 8 8 0), some (vI (v_X5_allLocks m)), some (vI (v_X5_sumFrom m 337 8)), some (vI (v_X5_sumFrom m 345 8)), some (vI (v_X5_sumFrom m 353 8)), some (vI (u + (a 3 r))), some (vI (nI r)), none]) (st2 := [vI (3 : Int32), vI (nI r), vR 3 0 0]) (m1 := (setA M a)) rfl ?_
    refine an_call (rc_row W (show r < 12 by omega) (w := 3) (by omega)) rfl rfl rfl rfl ?_
    refine an_b 2 (pc2 := 297) (L2 := [some (vR 3 0 0), some (vR 8 0 0), some (vR 8 1 0), some (vR 8 2 0), some (vR 8 3 0), some (vR 8 4 0), some (vR 8 5 0), some (vR 8 6 0), some (vR 8 7 0), some (vR 8 8 0), some (vI (v_X5_allLocks m)), some (vI (v_X5_sumFrom m 337 8)), some (vI (v_X5_sumFrom m 345 8)), some (vI (v_X5_sumFrom m 353 8)), some (vI (u + (a 3 r))), some (vI (nI r)), none]) (st2 := [vI (nI r), vR 8 3 0, vI (v_X5_rowNow m r (nI 3))]) (m1 := (setA M a)) rfl ?_
    refine an_la 3 r (by decide) (by show _ < 6; omega) rfl rfl ?_
    refine an_b 1 (pc2 := if (v_X5_rowNow m r (nI 3)) = (a 3 r) then 303 else 301) (L2 := [some (vR 3 0 0), some (vR 8 0 0), some (vR 8 1 0), some (vR 8 2 0), some (vR 8 3 0), some (vR 8 4 0), some (vR 8 5 0), some (vR 8 6 0), some (vR 8 7 0), some (vR 8 8 0), some (vI (v_X5_allLocks m)), some (vI (v_X5_sumFrom m 337 8)), some (vI (v_X5_sumFrom m 345 8)), some (vI (v_X5_sumFrom m 353 8)), some (vI (u + (a 3 r))), some (vI (nI r)), none]) (st2 := []) (m1 := (setA M a)) rfl ?_
    refine an_t b3 ?_
    refine an_b 2 (pc2 := 306) (L2 := [some (vR 3 0 0), some (vR 8 0 0), some (vR 8 1 0), some (vR 8 2 0), some (vR 8 3 0), some (vR 8 4 0), some (vR 8 5 0), some (vR 8 6 0), some (vR 8 7 0), some (vR 8 8 0), some (vI (v_X5_allLocks m)), some (vI (v_X5_sumFrom m 337 8)), some (vI (v_X5_sumFrom m 345 8)), some (vI (v_X5_sumFrom m 353 8)), some (vI (u + (a 3 r))), some (vI (nI r)), some (vI (0 : Int32))]) (st2 := []) (m1 := (setA M a)) rfl ?_
    suffices KK : ∀ d k, k + d = 5 → An ML_agree 306 [some (vR 3 0 0), some (vR 8 0 0), some (vR 8 1 0), some (vR 8 2 0), some (vR 8 3 0), some (vR 8 4 0), some (vR 8 5 0), some (vR 8 6 0), some (vR 8 7 0), some (vR 8 8 0), some (vI (v_X5_allLocks m)), some (vI (v_X5_sumFrom m 337 8)), some (vI (v_X5_sumFrom m 345 8)), some (vI (v_X5_sumFrom m 353 8)), some (vI (u + a 3 r)), some (vI (nI r)), some (vI (nI k))] [] (setA M a) v8 m8 from KK 5 0 rfl
    intro d
    induction d with
    | zero =>
      intro k hd
      obtain rfl : k = 5 := by omega
      refine an_b 3 (pc2 := if (5 : Int32) ≤ (nI 5) then 396 else 312) (L2 := [some (vR 3 0 0), some (vR 8 0 0), some (vR 8 1 0), some (vR 8 2 0), some (vR 8 3 0), some (vR 8 4 0), some (vR 8 5 0), some (vR 8 6 0), some (vR 8 7 0), some (vR 8 8 0), some (vI (v_X5_allLocks m)), some (vI (v_X5_sumFrom m 337 8)), some (vI (v_X5_sumFrom m 345 8)), some (vI (v_X5_sumFrom m 353 8)), some (vI (u + a 3 r)), some (vI (nI r)), some (vI (nI 5))]) (st2 := []) (m1 := (setA M a)) rfl ?_
      refine an_t (nI_le (Nat.le_refl 5) (by omega)) ?_
      refine an_b 2 (pc2 := 254) (L2 := [some (vR 3 0 0), some (vR 8 0 0), some (vR 8 1 0), some (vR 8 2 0), some (vR 8 3 0), some (vR 8 4 0), some (vR 8 5 0), some (vR 8 6 0), some (vR 8 7 0), some (vR 8 8 0), some (vI (v_X5_allLocks m)), some (vI (v_X5_sumFrom m 337 8)), some (vI (v_X5_sumFrom m 345 8)), some (vI (v_X5_sumFrom m 353 8)), some (vI (u + a 3 r)), some (vI ((nI r) + (1 : Int32))), some (vI (nI 5))]) (st2 := []) (m1 := (setA M a)) rfl ?_
      exact an_weak (L := [some (vR 3 0 0), some (vR 8 0 0), some (vR 8 1 0), some (vR 8 2 0), some (vR 8 3 0), some (vR 8 4 0), some (vR 8 5 0), some (vR 8 6 0), some (vR 8 7 0), some (vR 8 8 0), some (vI (v_X5_allLocks m)), some (vI (v_X5_sumFrom m 337 8)), some (vI (v_X5_sumFrom m 345 8)), some (vI (v_X5_sumFrom m 353 8)), some (vI (u + a 3 r)), some (vI (nI (r + 1))), none]) ⟨rfl, rfl, rfl, rfl, rfl, rfl, rfl, rfl, rfl, rfl, rfl, rfl, rfl, rfl, rfl, by rw [nI_1], trivial⟩ K8
    | succ d ih =>
      intro k hd
      have hk : k < 5 := by omega
      have ku := ih (k + 1) (by omega)
      rw [← nI_1] at ku
      -- the two answers
      have c0 := rc_request W (show r < 12 by omega) (show k < 8 by omega) (x := 0) (by omega)
      have c1 := rc_request W (show r < 12 by omega) (show k < 8 by omega) (x := 1) (by omega)
      by_cases ck : k < n
      · obtain ⟨w, md, w1, w2, w3, w4, w5, w6⟩ := n4 k ck
        have lt : nI k < m.1 8 0 0 (125 + r) := by
          rw [show m.1 8 0 0 (125 + r) = nI n from n2]; exact nI_lt ck (by omega)
        have v0 : v_X5_requestNow m r k (nI 0) = nI w := by
          unfold v_X5_requestNow
          rw [if_pos lt, if_neg (fun q => q rfl)]; exact w4
        have v1 : v_X5_requestNow m r k (nI 1) = nI md := by
          unfold v_X5_requestNow
          rw [if_pos lt, if_pos (by decide)]; exact w5
        rw [v0] at c0
        rw [v1] at c1
        have er : a 2 (5 * r + k) - a 2 (5 * r + k) / 8 * 8 = nI w := by rw [w6]; exact rem8 w w1 md w3
        have ed : a 2 (5 * r + k) / 8 = nI md := by rw [w6]; exact div8 w w1 md w3
        refine an_b 3 (pc2 := if (5 : Int32) ≤ (nI k) then 396 else 312) (L2 := [some (vR 3 0 0), some (vR 8 0 0), some (vR 8 1 0), some (vR 8 2 0), some (vR 8 3 0), some (vR 8 4 0), some (vR 8 5 0), some (vR 8 6 0), some (vR 8 7 0), some (vR 8 8 0), some (vI (v_X5_allLocks m)), some (vI (v_X5_sumFrom m 337 8)), some (vI (v_X5_sumFrom m 345 8)), some (vI (v_X5_sumFrom m 353 8)), some (vI (u + a 3 r)), some (vI (nI r)), some (vI (nI k))]) (st2 := []) (m1 := (setA M a)) rfl ?_
        refine an_f (nI_ge (b := 5) hk (by omega)) ?_
        refine an_b 4 (pc2 := 318) (L2 := [some (vR 3 0 0), some (vR 8 0 0), some (vR 8 1 0), some (vR 8 2 0), some (vR 8 3 0), some (vR 8 4 0), some (vR 8 5 0), some (vR 8 6 0), some (vR 8 7 0), some (vR 8 8 0), some (vI (v_X5_allLocks m)), some (vI (v_X5_sumFrom m 337 8)), some (vI (v_X5_sumFrom m 345 8)), some (vI (v_X5_sumFrom m 353 8)), some (vI (u + a 3 r)), some (vI (nI r)), some (vI (nI k))]) (st2 := [vI (0 : Int32), vI (nI k), vI (nI r), vR 3 0 0]) (m1 := (setA M a)) rfl ?_
        refine an_call c0 rfl rfl rfl rfl ?_
        refine an_b 3 (pc2 := 327) (L2 := [some (vR 3 0 0), some (vR 8 0 0), some (vR 8 1 0), some (vR 8 2 0), some (vR 8 3 0), some (vR 8 4 0), some (vR 8 5 0), some (vR 8 6 0), some (vR 8 7 0), some (vR 8 8 0), some (vI (v_X5_allLocks m)), some (vI (v_X5_sumFrom m 337 8)), some (vI (v_X5_sumFrom m 345 8)), some (vI (v_X5_sumFrom m 353 8)), some (vI (u + a 3 r)), some (vI (nI r)), some (vI (nI k))]) (st2 := [vI (nI r), vR 8 3 0, vI (nI k), vI (nI w)]) (m1 := (setA M a)) rfl ?_
        refine an_la 3 r (by decide) (by show _ < 6; omega) rfl rfl ?_
        refine an_b 1 (pc2 := if (nI n) ≤ (nI k) then 346 else 331) (L2 := [some (vR 3 0 0), some (vR 8 0 0), some (vR 8 1 0), some (vR 8 2 0), some (vR 8 3 0), some (vR 8 4 0), some (vR 8 5 0), some (vR 8 6 0), some (vR 8 7 0), some (vR 8 8 0), some (vI (v_X5_allLocks m)), some (vI (v_X5_sumFrom m 337 8)), some (vI (v_X5_sumFrom m 345 8)), some (vI (v_X5_sumFrom m 353 8)), some (vI (u + a 3 r)), some (vI (nI r)), some (vI (nI k))]) (st2 := [vI (nI w)]) (m1 := (setA M a)) (by rw [n3]; rfl) ?_
        refine an_f (nI_ge ck (by omega)) ?_
        refine an_b 6 (pc2 := 339) (L2 := [some (vR 3 0 0), some (vR 8 0 0), some (vR 8 1 0), some (vR 8 2 0), some (vR 8 3 0), some (vR 8 4 0), some (vR 8 5 0), some (vR 8 6 0), some (vR 8 7 0), some (vR 8 8 0), some (vI (v_X5_allLocks m)), some (vI (v_X5_sumFrom m 337 8)), some (vI (v_X5_sumFrom m 345 8)), some (vI (v_X5_sumFrom m 353 8)), some (vI (u + a 3 r)), some (vI (nI r)), some (vI (nI k))]) (st2 := [vI (((5 : Int32) * (nI r)) + (nI k)), vR 8 2 0, vI (nI w)]) (m1 := (setA M a)) rfl ?_
        refine an_la 2 ((5 * r) + k) (by decide) (by show _ < 36; omega) (by simp only [ix_lit, pk_mul, nI_add]) rfl ?_
        refine an_b 2 (pc2 := 343) (L2 := [some (vR 3 0 0), some (vR 8 0 0), some (vR 8 1 0), some (vR 8 2 0), some (vR 8 3 0), some (vR 8 4 0), some (vR 8 5 0), some (vR 8 6 0), some (vR 8 7 0), some (vR 8 8 0), some (vI (v_X5_allLocks m)), some (vI (v_X5_sumFrom m 337 8)), some (vI (v_X5_sumFrom m 345 8)), some (vI (v_X5_sumFrom m 353 8)), some (vI (u + a 3 r)), some (vI (nI r)), some (vI (nI k))]) (st2 := [vI ((a 2 ((5 * r) + k)) - (a 2 ((5 * r) + k)) / (8 : Int32) * (8 : Int32)), vI (nI w)]) (m1 := (setA M a)) rfl ?_
        rw [er]
        refine an_b 2 (pc2 := if ¬ (nI w) = (nI w) then 388 else 350) (L2 := [some (vR 3 0 0), some (vR 8 0 0), some (vR 8 1 0), some (vR 8 2 0), some (vR 8 3 0), some (vR 8 4 0), some (vR 8 5 0), some (vR 8 6 0), some (vR 8 7 0), some (vR 8 8 0), some (vI (v_X5_allLocks m)), some (vI (v_X5_sumFrom m 337 8)), some (vI (v_X5_sumFrom m 345 8)), some (vI (v_X5_sumFrom m 353 8)), some (vI (u + a 3 r)), some (vI (nI r)), some (vI (nI k))]) (st2 := []) (m1 := (setA M a)) rfl ?_
        refine an_f (fun q => q rfl) ?_
        refine an_b 4 (pc2 := 356) (L2 := [some (vR 3 0 0), some (vR 8 0 0), some (vR 8 1 0), some (vR 8 2 0), some (vR 8 3 0), some (vR 8 4 0), some (vR 8 5 0), some (vR 8 6 0), some (vR 8 7 0), some (vR 8 8 0), some (vI (v_X5_allLocks m)), some (vI (v_X5_sumFrom m 337 8)), some (vI (v_X5_sumFrom m 345 8)), some (vI (v_X5_sumFrom m 353 8)), some (vI (u + a 3 r)), some (vI (nI r)), some (vI (nI k))]) (st2 := [vI (1 : Int32), vI (nI k), vI (nI r), vR 3 0 0]) (m1 := (setA M a)) rfl ?_
        refine an_call c1 rfl rfl rfl rfl ?_
        refine an_b 3 (pc2 := 365) (L2 := [some (vR 3 0 0), some (vR 8 0 0), some (vR 8 1 0), some (vR 8 2 0), some (vR 8 3 0), some (vR 8 4 0), some (vR 8 5 0), some (vR 8 6 0), some (vR 8 7 0), some (vR 8 8 0), some (vI (v_X5_allLocks m)), some (vI (v_X5_sumFrom m 337 8)), some (vI (v_X5_sumFrom m 345 8)), some (vI (v_X5_sumFrom m 353 8)), some (vI (u + a 3 r)), some (vI (nI r)), some (vI (nI k))]) (st2 := [vI (nI r), vR 8 3 0, vI (nI k), vI (nI md)]) (m1 := (setA M a)) rfl ?_
        refine an_la 3 r (by decide) (by show _ < 6; omega) rfl rfl ?_
        refine an_b 1 (pc2 := if (nI n) ≤ (nI k) then 384 else 369) (L2 := [some (vR 3 0 0), some (vR 8 0 0), some (vR 8 1 0), some (vR 8 2 0), some (vR 8 3 0), some (vR 8 4 0), some (vR 8 5 0), some (vR 8 6 0), some (vR 8 7 0), some (vR 8 8 0), some (vI (v_X5_allLocks m)), some (vI (v_X5_sumFrom m 337 8)), some (vI (v_X5_sumFrom m 345 8)), some (vI (v_X5_sumFrom m 353 8)), some (vI (u + a 3 r)), some (vI (nI r)), some (vI (nI k))]) (st2 := [vI (nI md)]) (m1 := (setA M a)) (by rw [n3]; rfl) ?_
        refine an_f (nI_ge ck (by omega)) ?_
        refine an_b 6 (pc2 := 377) (L2 := [some (vR 3 0 0), some (vR 8 0 0), some (vR 8 1 0), some (vR 8 2 0), some (vR 8 3 0), some (vR 8 4 0), some (vR 8 5 0), some (vR 8 6 0), some (vR 8 7 0), some (vR 8 8 0), some (vI (v_X5_allLocks m)), some (vI (v_X5_sumFrom m 337 8)), some (vI (v_X5_sumFrom m 345 8)), some (vI (v_X5_sumFrom m 353 8)), some (vI (u + a 3 r)), some (vI (nI r)), some (vI (nI k))]) (st2 := [vI (((5 : Int32) * (nI r)) + (nI k)), vR 8 2 0, vI (nI md)]) (m1 := (setA M a)) rfl ?_
        refine an_la 2 ((5 * r) + k) (by decide) (by show _ < 36; omega) (by simp only [ix_lit, pk_mul, nI_add]) rfl ?_
        refine an_b 2 (pc2 := 381) (L2 := [some (vR 3 0 0), some (vR 8 0 0), some (vR 8 1 0), some (vR 8 2 0), some (vR 8 3 0), some (vR 8 4 0), some (vR 8 5 0), some (vR 8 6 0), some (vR 8 7 0), some (vR 8 8 0), some (vI (v_X5_allLocks m)), some (vI (v_X5_sumFrom m 337 8)), some (vI (v_X5_sumFrom m 345 8)), some (vI (v_X5_sumFrom m 353 8)), some (vI (u + a 3 r)), some (vI (nI r)), some (vI (nI k))]) (st2 := [vI ((a 2 ((5 * r) + k)) / (8 : Int32)), vI (nI md)]) (m1 := (setA M a)) rfl ?_
        rw [ed]
        refine an_b 2 (pc2 := if (nI md) = (nI md) then 390 else 388) (L2 := [some (vR 3 0 0), some (vR 8 0 0), some (vR 8 1 0), some (vR 8 2 0), some (vR 8 3 0), some (vR 8 4 0), some (vR 8 5 0), some (vR 8 6 0), some (vR 8 7 0), some (vR 8 8 0), some (vI (v_X5_allLocks m)), some (vI (v_X5_sumFrom m 337 8)), some (vI (v_X5_sumFrom m 345 8)), some (vI (v_X5_sumFrom m 353 8)), some (vI (u + a 3 r)), some (vI (nI r)), some (vI (nI k))]) (st2 := []) (m1 := (setA M a)) rfl ?_
        refine an_t rfl ?_
        refine an_b 2 (pc2 := 306) (L2 := [some (vR 3 0 0), some (vR 8 0 0), some (vR 8 1 0), some (vR 8 2 0), some (vR 8 3 0), some (vR 8 4 0), some (vR 8 5 0), some (vR 8 6 0), some (vR 8 7 0), some (vR 8 8 0), some (vI (v_X5_allLocks m)), some (vI (v_X5_sumFrom m 337 8)), some (vI (v_X5_sumFrom m 345 8)), some (vI (v_X5_sumFrom m 353 8)), some (vI (u + a 3 r)), some (vI (nI r)), some (vI ((nI k) + (1 : Int32)))]) (st2 := []) (m1 := (setA M a)) rfl ?_
        exact ku
      · have lt : ¬ nI k < m.1 8 0 0 (125 + r) := by
          rw [show m.1 8 0 0 (125 + r) = nI n from n2]; exact nI_nlt (by omega) (by omega)
        have v0 : ∀ x, v_X5_requestNow m r k x = -1 := fun x => by
          unfold v_X5_requestNow
          rw [if_neg lt]
        rw [v0] at c0 c1
        refine an_b 3 (pc2 := if (5 : Int32) ≤ (nI k) then 396 else 312) (L2 := [some (vR 3 0 0), some (vR 8 0 0), some (vR 8 1 0), some (vR 8 2 0), some (vR 8 3 0), some (vR 8 4 0), some (vR 8 5 0), some (vR 8 6 0), some (vR 8 7 0), some (vR 8 8 0), some (vI (v_X5_allLocks m)), some (vI (v_X5_sumFrom m 337 8)), some (vI (v_X5_sumFrom m 345 8)), some (vI (v_X5_sumFrom m 353 8)), some (vI (u + a 3 r)), some (vI (nI r)), some (vI (nI k))]) (st2 := []) (m1 := (setA M a)) rfl ?_
        refine an_f (nI_ge (b := 5) hk (by omega)) ?_
        refine an_b 4 (pc2 := 318) (L2 := [some (vR 3 0 0), some (vR 8 0 0), some (vR 8 1 0), some (vR 8 2 0), some (vR 8 3 0), some (vR 8 4 0), some (vR 8 5 0), some (vR 8 6 0), some (vR 8 7 0), some (vR 8 8 0), some (vI (v_X5_allLocks m)), some (vI (v_X5_sumFrom m 337 8)), some (vI (v_X5_sumFrom m 345 8)), some (vI (v_X5_sumFrom m 353 8)), some (vI (u + a 3 r)), some (vI (nI r)), some (vI (nI k))]) (st2 := [vI (0 : Int32), vI (nI k), vI (nI r), vR 3 0 0]) (m1 := (setA M a)) rfl ?_
        refine an_call c0 rfl rfl rfl rfl ?_
        refine an_b 3 (pc2 := 327) (L2 := [some (vR 3 0 0), some (vR 8 0 0), some (vR 8 1 0), some (vR 8 2 0), some (vR 8 3 0), some (vR 8 4 0), some (vR 8 5 0), some (vR 8 6 0), some (vR 8 7 0), some (vR 8 8 0), some (vI (v_X5_allLocks m)), some (vI (v_X5_sumFrom m 337 8)), some (vI (v_X5_sumFrom m 345 8)), some (vI (v_X5_sumFrom m 353 8)), some (vI (u + a 3 r)), some (vI (nI r)), some (vI (nI k))]) (st2 := [vI (nI r), vR 8 3 0, vI (nI k), vI (-1 : Int32)]) (m1 := (setA M a)) rfl ?_
        refine an_la 3 r (by decide) (by show _ < 6; omega) rfl rfl ?_
        refine an_b 1 (pc2 := if (nI n) ≤ (nI k) then 346 else 331) (L2 := [some (vR 3 0 0), some (vR 8 0 0), some (vR 8 1 0), some (vR 8 2 0), some (vR 8 3 0), some (vR 8 4 0), some (vR 8 5 0), some (vR 8 6 0), some (vR 8 7 0), some (vR 8 8 0), some (vI (v_X5_allLocks m)), some (vI (v_X5_sumFrom m 337 8)), some (vI (v_X5_sumFrom m 345 8)), some (vI (v_X5_sumFrom m 353 8)), some (vI (u + a 3 r)), some (vI (nI r)), some (vI (nI k))]) (st2 := [vI (-1 : Int32)]) (m1 := (setA M a)) (by rw [n3]; rfl) ?_
        refine an_t (nI_le (by omega) (by omega)) ?_
        refine an_b 2 (pc2 := if ¬ (-1 : Int32) = (-1 : Int32) then 388 else 350) (L2 := [some (vR 3 0 0), some (vR 8 0 0), some (vR 8 1 0), some (vR 8 2 0), some (vR 8 3 0), some (vR 8 4 0), some (vR 8 5 0), some (vR 8 6 0), some (vR 8 7 0), some (vR 8 8 0), some (vI (v_X5_allLocks m)), some (vI (v_X5_sumFrom m 337 8)), some (vI (v_X5_sumFrom m 345 8)), some (vI (v_X5_sumFrom m 353 8)), some (vI (u + a 3 r)), some (vI (nI r)), some (vI (nI k))]) (st2 := []) (m1 := (setA M a)) rfl ?_
        refine an_f (fun q => q rfl) ?_
        refine an_b 4 (pc2 := 356) (L2 := [some (vR 3 0 0), some (vR 8 0 0), some (vR 8 1 0), some (vR 8 2 0), some (vR 8 3 0), some (vR 8 4 0), some (vR 8 5 0), some (vR 8 6 0), some (vR 8 7 0), some (vR 8 8 0), some (vI (v_X5_allLocks m)), some (vI (v_X5_sumFrom m 337 8)), some (vI (v_X5_sumFrom m 345 8)), some (vI (v_X5_sumFrom m 353 8)), some (vI (u + a 3 r)), some (vI (nI r)), some (vI (nI k))]) (st2 := [vI (1 : Int32), vI (nI k), vI (nI r), vR 3 0 0]) (m1 := (setA M a)) rfl ?_
        refine an_call c1 rfl rfl rfl rfl ?_
        refine an_b 3 (pc2 := 365) (L2 := [some (vR 3 0 0), some (vR 8 0 0), some (vR 8 1 0), some (vR 8 2 0), some (vR 8 3 0), some (vR 8 4 0), some (vR 8 5 0), some (vR 8 6 0), some (vR 8 7 0), some (vR 8 8 0), some (vI (v_X5_allLocks m)), some (vI (v_X5_sumFrom m 337 8)), some (vI (v_X5_sumFrom m 345 8)), some (vI (v_X5_sumFrom m 353 8)), some (vI (u + a 3 r)), some (vI (nI r)), some (vI (nI k))]) (st2 := [vI (nI r), vR 8 3 0, vI (nI k), vI (-1 : Int32)]) (m1 := (setA M a)) rfl ?_
        refine an_la 3 r (by decide) (by show _ < 6; omega) rfl rfl ?_
        refine an_b 1 (pc2 := if (nI n) ≤ (nI k) then 384 else 369) (L2 := [some (vR 3 0 0), some (vR 8 0 0), some (vR 8 1 0), some (vR 8 2 0), some (vR 8 3 0), some (vR 8 4 0), some (vR 8 5 0), some (vR 8 6 0), some (vR 8 7 0), some (vR 8 8 0), some (vI (v_X5_allLocks m)), some (vI (v_X5_sumFrom m 337 8)), some (vI (v_X5_sumFrom m 345 8)), some (vI (v_X5_sumFrom m 353 8)), some (vI (u + a 3 r)), some (vI (nI r)), some (vI (nI k))]) (st2 := [vI (-1 : Int32)]) (m1 := (setA M a)) (by rw [n3]; rfl) ?_
        refine an_t (nI_le (by omega) (by omega)) ?_
        refine an_b 2 (pc2 := if (-1 : Int32) = (-1 : Int32) then 390 else 388) (L2 := [some (vR 3 0 0), some (vR 8 0 0), some (vR 8 1 0), some (vR 8 2 0), some (vR 8 3 0), some (vR 8 4 0), some (vR 8 5 0), some (vR 8 6 0), some (vR 8 7 0), some (vR 8 8 0), some (vI (v_X5_allLocks m)), some (vI (v_X5_sumFrom m 337 8)), some (vI (v_X5_sumFrom m 345 8)), some (vI (v_X5_sumFrom m 353 8)), some (vI (u + a 3 r)), some (vI (nI r)), some (vI (nI k))]) (st2 := []) (m1 := (setA M a)) rfl ?_
        refine an_t rfl ?_
        refine an_b 2 (pc2 := 306) (L2 := [some (vR 3 0 0), some (vR 8 0 0), some (vR 8 1 0), some (vR 8 2 0), some (vR 8 3 0), some (vR 8 4 0), some (vR 8 5 0), some (vR 8 6 0), some (vR 8 7 0), some (vR 8 8 0), some (vI (v_X5_allLocks m)), some (vI (v_X5_sumFrom m 337 8)), some (vI (v_X5_sumFrom m 345 8)), some (vI (v_X5_sumFrom m 353 8)), some (vI (u + a 3 r)), some (vI (nI r)), some (vI ((nI k) + (1 : Int32)))]) (st2 := []) (m1 := (setA M a)) rfl ?_
        exact ku
  · show An ML_agree 254 [some (vR 3 0 0), some (vR 8 0 0), some (vR 8 1 0), some (vR 8 2 0), some (vR 8 3 0), some (vR 8 4 0), some (vR 8 5 0), some (vR 8 6 0), some (vR 8 7 0), some (vR 8 8 0), some (vI (v_X5_allLocks m)), some (vI (v_X5_sumFrom m 337 8)), some (vI (v_X5_sumFrom m 345 8)), some (vI (v_X5_sumFrom m 353 8)), some (vI u), some (vI (nI 6)), none] [] (setA M a) v8 m8
    refine an_b 3 (pc2 := if (6 : Int32) ≤ (nI 6) then 402 else 261) (L2 := [some (vR 3 0 0), some (vR 8 0 0), some (vR 8 1 0), some (vR 8 2 0), some (vR 8 3 0), some (vR 8 4 0), some (vR 8 5 0), some (vR 8 6 0), some (vR 8 7 0), some (vR 8 8 0), some (vI (v_X5_allLocks m)), some (vI (v_X5_sumFrom m 337 8)), some (vI (v_X5_sumFrom m 345 8)), some (vI (v_X5_sumFrom m 353 8)), some (vI u), some (vI (nI 6)), none]) (st2 := []) (m1 := (setA M a)) rfl ?_
    refine an_t (nI_le (Nat.le_refl 6) (by omega)) ?_
    exact K8
  rw [wt_all H]
  have d2 : v_X5_counted m 2 = a 0 0 := H.2.2.2.2.1.symm
  have d3 : v_X5_counted m 3 = a 0 1 := H.2.2.2.2.2.1.symm
  have d5 : v_X5_counted m 5 = a 0 6 := by
    have k := H.2.2.2.2.2.2.2.2.2.2
    have k : a 0 6 + 0 = hsum (zz m) := k
    rw [Int32.add_zero] at k
    rw [k]
    rfl
  have d9 : v_X5_counted m 9 = a 0 2 := W.2.2.1.trans H.2.2.2.2.2.2.1.symm
  show An ML_agree 402 [some (vR 3 0 0), some (vR 8 0 0), some (vR 8 1 0), some (vR 8 2 0), some (vR 8 3 0), some (vR 8 4 0), some (vR 8 5 0), some (vR 8 6 0), some (vR 8 7 0), some (vR 8 8 0), some (vI (v_X5_allLocks m)), some (vI (v_X5_sumFrom m 337 8)), some (vI (v_X5_sumFrom m 345 8)), some (vI (v_X5_sumFrom m 353 8)), some (vI (v_X5_sumFrom m 125 12)), some (vI (nI 6)), none] [] (setA M a) (.inl (some (vI 1))) (setA M a)
  refine an_b 2 (pc2 := 404) (L2 := [some (vR 3 0 0), some (vR 8 0 0), some (vR 8 1 0), some (vR 8 2 0), some (vR 8 3 0), some (vR 8 4 0), some (vR 8 5 0), some (vR 8 6 0), some (vR 8 7 0), some (vR 8 8 0), some (vI (v_X5_allLocks m)), some (vI (v_X5_sumFrom m 337 8)), some (vI (v_X5_sumFrom m 345 8)), some (vI (v_X5_sumFrom m 353 8)), some (vI (v_X5_sumFrom m 125 12)), some (vI (nI 6)), none]) (st2 := [vI (0 : Int32), vR 3 0 0]) (m1 := (setA M a)) rfl ?_
  refine an_call (rc_count W (w := 0) (by omega)) rfl rfl rfl rfl ?_
  refine an_b 2 (pc2 := if ¬ (v_X5_counted m 0) = (v_X5_allLocks m) then 504 else 412) (L2 := [some (vR 3 0 0), some (vR 8 0 0), some (vR 8 1 0), some (vR 8 2 0), some (vR 8 3 0), some (vR 8 4 0), some (vR 8 5 0), some (vR 8 6 0), some (vR 8 7 0), some (vR 8 8 0), some (vI (v_X5_allLocks m)), some (vI (v_X5_sumFrom m 337 8)), some (vI (v_X5_sumFrom m 345 8)), some (vI (v_X5_sumFrom m 353 8)), some (vI (v_X5_sumFrom m 125 12)), some (vI (nI 6)), none]) (st2 := []) (m1 := (setA M a)) rfl ?_
  refine an_f (fun q => q rfl) ?_
  refine an_b 2 (pc2 := 414) (L2 := [some (vR 3 0 0), some (vR 8 0 0), some (vR 8 1 0), some (vR 8 2 0), some (vR 8 3 0), some (vR 8 4 0), some (vR 8 5 0), some (vR 8 6 0), some (vR 8 7 0), some (vR 8 8 0), some (vI (v_X5_allLocks m)), some (vI (v_X5_sumFrom m 337 8)), some (vI (v_X5_sumFrom m 345 8)), some (vI (v_X5_sumFrom m 353 8)), some (vI (v_X5_sumFrom m 125 12)), some (vI (nI 6)), none]) (st2 := [vI (1 : Int32), vR 3 0 0]) (m1 := (setA M a)) rfl ?_
  refine an_call (rc_count W (w := 1) (by omega)) rfl rfl rfl rfl ?_
  refine an_b 2 (pc2 := if ¬ (v_X5_counted m 1) = (v_X5_sumFrom m 125 12) then 504 else 422) (L2 := [some (vR 3 0 0), some (vR 8 0 0), some (vR 8 1 0), some (vR 8 2 0), some (vR 8 3 0), some (vR 8 4 0), some (vR 8 5 0), some (vR 8 6 0), some (vR 8 7 0), some (vR 8 8 0), some (vI (v_X5_allLocks m)), some (vI (v_X5_sumFrom m 337 8)), some (vI (v_X5_sumFrom m 345 8)), some (vI (v_X5_sumFrom m 353 8)), some (vI (v_X5_sumFrom m 125 12)), some (vI (nI 6)), none]) (st2 := []) (m1 := (setA M a)) rfl ?_
  refine an_f (fun q => q rfl) ?_
  refine an_b 2 (pc2 := 424) (L2 := [some (vR 3 0 0), some (vR 8 0 0), some (vR 8 1 0), some (vR 8 2 0), some (vR 8 3 0), some (vR 8 4 0), some (vR 8 5 0), some (vR 8 6 0), some (vR 8 7 0), some (vR 8 8 0), some (vI (v_X5_allLocks m)), some (vI (v_X5_sumFrom m 337 8)), some (vI (v_X5_sumFrom m 345 8)), some (vI (v_X5_sumFrom m 353 8)), some (vI (v_X5_sumFrom m 125 12)), some (vI (nI 6)), none]) (st2 := [vI (2 : Int32), vR 3 0 0]) (m1 := (setA M a)) rfl ?_
  refine an_call (rc_count W (w := 2) (by omega)) rfl rfl rfl rfl ?_
  refine an_b 2 (pc2 := 429) (L2 := [some (vR 3 0 0), some (vR 8 0 0), some (vR 8 1 0), some (vR 8 2 0), some (vR 8 3 0), some (vR 8 4 0), some (vR 8 5 0), some (vR 8 6 0), some (vR 8 7 0), some (vR 8 8 0), some (vI (v_X5_allLocks m)), some (vI (v_X5_sumFrom m 337 8)), some (vI (v_X5_sumFrom m 345 8)), some (vI (v_X5_sumFrom m 353 8)), some (vI (v_X5_sumFrom m 125 12)), some (vI (nI 6)), none]) (st2 := [vI (0 : Int32), vR 8 0 0, vI (v_X5_counted m 2)]) (m1 := (setA M a)) rfl ?_
  refine an_la 0 0 (by decide) (by show _ < 7; omega) rfl rfl ?_
  refine an_b 1 (pc2 := if ¬ (v_X5_counted m 2) = (a 0 0) then 504 else 433) (L2 := [some (vR 3 0 0), some (vR 8 0 0), some (vR 8 1 0), some (vR 8 2 0), some (vR 8 3 0), some (vR 8 4 0), some (vR 8 5 0), some (vR 8 6 0), some (vR 8 7 0), some (vR 8 8 0), some (vI (v_X5_allLocks m)), some (vI (v_X5_sumFrom m 337 8)), some (vI (v_X5_sumFrom m 345 8)), some (vI (v_X5_sumFrom m 353 8)), some (vI (v_X5_sumFrom m 125 12)), some (vI (nI 6)), none]) (st2 := []) (m1 := (setA M a)) rfl ?_
  refine an_f (fun q => q d2) ?_
  refine an_b 2 (pc2 := 435) (L2 := [some (vR 3 0 0), some (vR 8 0 0), some (vR 8 1 0), some (vR 8 2 0), some (vR 8 3 0), some (vR 8 4 0), some (vR 8 5 0), some (vR 8 6 0), some (vR 8 7 0), some (vR 8 8 0), some (vI (v_X5_allLocks m)), some (vI (v_X5_sumFrom m 337 8)), some (vI (v_X5_sumFrom m 345 8)), some (vI (v_X5_sumFrom m 353 8)), some (vI (v_X5_sumFrom m 125 12)), some (vI (nI 6)), none]) (st2 := [vI (3 : Int32), vR 3 0 0]) (m1 := (setA M a)) rfl ?_
  refine an_call (rc_count W (w := 3) (by omega)) rfl rfl rfl rfl ?_
  refine an_b 2 (pc2 := 440) (L2 := [some (vR 3 0 0), some (vR 8 0 0), some (vR 8 1 0), some (vR 8 2 0), some (vR 8 3 0), some (vR 8 4 0), some (vR 8 5 0), some (vR 8 6 0), some (vR 8 7 0), some (vR 8 8 0), some (vI (v_X5_allLocks m)), some (vI (v_X5_sumFrom m 337 8)), some (vI (v_X5_sumFrom m 345 8)), some (vI (v_X5_sumFrom m 353 8)), some (vI (v_X5_sumFrom m 125 12)), some (vI (nI 6)), none]) (st2 := [vI (1 : Int32), vR 8 0 0, vI (v_X5_counted m 3)]) (m1 := (setA M a)) rfl ?_
  refine an_la 0 1 (by decide) (by show _ < 7; omega) rfl rfl ?_
  refine an_b 1 (pc2 := if ¬ (v_X5_counted m 3) = (a 0 1) then 504 else 444) (L2 := [some (vR 3 0 0), some (vR 8 0 0), some (vR 8 1 0), some (vR 8 2 0), some (vR 8 3 0), some (vR 8 4 0), some (vR 8 5 0), some (vR 8 6 0), some (vR 8 7 0), some (vR 8 8 0), some (vI (v_X5_allLocks m)), some (vI (v_X5_sumFrom m 337 8)), some (vI (v_X5_sumFrom m 345 8)), some (vI (v_X5_sumFrom m 353 8)), some (vI (v_X5_sumFrom m 125 12)), some (vI (nI 6)), none]) (st2 := []) (m1 := (setA M a)) rfl ?_
  refine an_f (fun q => q d3) ?_
  refine an_b 2 (pc2 := 446) (L2 := [some (vR 3 0 0), some (vR 8 0 0), some (vR 8 1 0), some (vR 8 2 0), some (vR 8 3 0), some (vR 8 4 0), some (vR 8 5 0), some (vR 8 6 0), some (vR 8 7 0), some (vR 8 8 0), some (vI (v_X5_allLocks m)), some (vI (v_X5_sumFrom m 337 8)), some (vI (v_X5_sumFrom m 345 8)), some (vI (v_X5_sumFrom m 353 8)), some (vI (v_X5_sumFrom m 125 12)), some (vI (nI 6)), none]) (st2 := [vI (4 : Int32), vR 3 0 0]) (m1 := (setA M a)) rfl ?_
  refine an_call (rc_count W (w := 4) (by omega)) rfl rfl rfl rfl ?_
  refine an_b 2 (pc2 := if ¬ (v_X5_counted m 4) = (v_X5_sumFrom m 337 8) then 504 else 454) (L2 := [some (vR 3 0 0), some (vR 8 0 0), some (vR 8 1 0), some (vR 8 2 0), some (vR 8 3 0), some (vR 8 4 0), some (vR 8 5 0), some (vR 8 6 0), some (vR 8 7 0), some (vR 8 8 0), some (vI (v_X5_allLocks m)), some (vI (v_X5_sumFrom m 337 8)), some (vI (v_X5_sumFrom m 345 8)), some (vI (v_X5_sumFrom m 353 8)), some (vI (v_X5_sumFrom m 125 12)), some (vI (nI 6)), none]) (st2 := []) (m1 := (setA M a)) rfl ?_
  refine an_f (fun q => q rfl) ?_
  refine an_b 2 (pc2 := 456) (L2 := [some (vR 3 0 0), some (vR 8 0 0), some (vR 8 1 0), some (vR 8 2 0), some (vR 8 3 0), some (vR 8 4 0), some (vR 8 5 0), some (vR 8 6 0), some (vR 8 7 0), some (vR 8 8 0), some (vI (v_X5_allLocks m)), some (vI (v_X5_sumFrom m 337 8)), some (vI (v_X5_sumFrom m 345 8)), some (vI (v_X5_sumFrom m 353 8)), some (vI (v_X5_sumFrom m 125 12)), some (vI (nI 6)), none]) (st2 := [vI (5 : Int32), vR 3 0 0]) (m1 := (setA M a)) rfl ?_
  refine an_call (rc_count W (w := 5) (by omega)) rfl rfl rfl rfl ?_
  refine an_b 2 (pc2 := 462) (L2 := [some (vR 3 0 0), some (vR 8 0 0), some (vR 8 1 0), some (vR 8 2 0), some (vR 8 3 0), some (vR 8 4 0), some (vR 8 5 0), some (vR 8 6 0), some (vR 8 7 0), some (vR 8 8 0), some (vI (v_X5_allLocks m)), some (vI (v_X5_sumFrom m 337 8)), some (vI (v_X5_sumFrom m 345 8)), some (vI (v_X5_sumFrom m 353 8)), some (vI (v_X5_sumFrom m 125 12)), some (vI (nI 6)), none]) (st2 := [vI (6 : Int32), vR 8 0 0, vI (v_X5_counted m 5)]) (m1 := (setA M a)) rfl ?_
  refine an_la 0 6 (by decide) (by show _ < 7; omega) rfl rfl ?_
  refine an_b 1 (pc2 := if ¬ (v_X5_counted m 5) = (a 0 6) then 504 else 466) (L2 := [some (vR 3 0 0), some (vR 8 0 0), some (vR 8 1 0), some (vR 8 2 0), some (vR 8 3 0), some (vR 8 4 0), some (vR 8 5 0), some (vR 8 6 0), some (vR 8 7 0), some (vR 8 8 0), some (vI (v_X5_allLocks m)), some (vI (v_X5_sumFrom m 337 8)), some (vI (v_X5_sumFrom m 345 8)), some (vI (v_X5_sumFrom m 353 8)), some (vI (v_X5_sumFrom m 125 12)), some (vI (nI 6)), none]) (st2 := []) (m1 := (setA M a)) rfl ?_
  refine an_f (fun q => q d5) ?_
  refine an_b 2 (pc2 := 469) (L2 := [some (vR 3 0 0), some (vR 8 0 0), some (vR 8 1 0), some (vR 8 2 0), some (vR 8 3 0), some (vR 8 4 0), some (vR 8 5 0), some (vR 8 6 0), some (vR 8 7 0), some (vR 8 8 0), some (vI (v_X5_allLocks m)), some (vI (v_X5_sumFrom m 337 8)), some (vI (v_X5_sumFrom m 345 8)), some (vI (v_X5_sumFrom m 353 8)), some (vI (v_X5_sumFrom m 125 12)), some (vI (nI 6)), none]) (st2 := [vI (6 : Int32), vR 3 0 0]) (m1 := (setA M a)) rfl ?_
  refine an_call (rc_count W (w := 6) (by omega)) rfl rfl rfl rfl ?_
  refine an_b 2 (pc2 := if ¬ (v_X5_counted m 6) = (v_X5_sumFrom m 345 8) then 504 else 477) (L2 := [some (vR 3 0 0), some (vR 8 0 0), some (vR 8 1 0), some (vR 8 2 0), some (vR 8 3 0), some (vR 8 4 0), some (vR 8 5 0), some (vR 8 6 0), some (vR 8 7 0), some (vR 8 8 0), some (vI (v_X5_allLocks m)), some (vI (v_X5_sumFrom m 337 8)), some (vI (v_X5_sumFrom m 345 8)), some (vI (v_X5_sumFrom m 353 8)), some (vI (v_X5_sumFrom m 125 12)), some (vI (nI 6)), none]) (st2 := []) (m1 := (setA M a)) rfl ?_
  refine an_f (fun q => q rfl) ?_
  refine an_b 2 (pc2 := 480) (L2 := [some (vR 3 0 0), some (vR 8 0 0), some (vR 8 1 0), some (vR 8 2 0), some (vR 8 3 0), some (vR 8 4 0), some (vR 8 5 0), some (vR 8 6 0), some (vR 8 7 0), some (vR 8 8 0), some (vI (v_X5_allLocks m)), some (vI (v_X5_sumFrom m 337 8)), some (vI (v_X5_sumFrom m 345 8)), some (vI (v_X5_sumFrom m 353 8)), some (vI (v_X5_sumFrom m 125 12)), some (vI (nI 6)), none]) (st2 := [vI (7 : Int32), vR 3 0 0]) (m1 := (setA M a)) rfl ?_
  refine an_call (rc_count W (w := 7) (by omega)) rfl rfl rfl rfl ?_
  refine an_b 2 (pc2 := if ¬ (v_X5_counted m 7) = (v_X5_sumFrom m 353 8) then 504 else 488) (L2 := [some (vR 3 0 0), some (vR 8 0 0), some (vR 8 1 0), some (vR 8 2 0), some (vR 8 3 0), some (vR 8 4 0), some (vR 8 5 0), some (vR 8 6 0), some (vR 8 7 0), some (vR 8 8 0), some (vI (v_X5_allLocks m)), some (vI (v_X5_sumFrom m 337 8)), some (vI (v_X5_sumFrom m 345 8)), some (vI (v_X5_sumFrom m 353 8)), some (vI (v_X5_sumFrom m 125 12)), some (vI (nI 6)), none]) (st2 := []) (m1 := (setA M a)) rfl ?_
  refine an_f (fun q => q rfl) ?_
  refine an_b 2 (pc2 := 491) (L2 := [some (vR 3 0 0), some (vR 8 0 0), some (vR 8 1 0), some (vR 8 2 0), some (vR 8 3 0), some (vR 8 4 0), some (vR 8 5 0), some (vR 8 6 0), some (vR 8 7 0), some (vR 8 8 0), some (vI (v_X5_allLocks m)), some (vI (v_X5_sumFrom m 337 8)), some (vI (v_X5_sumFrom m 345 8)), some (vI (v_X5_sumFrom m 353 8)), some (vI (v_X5_sumFrom m 125 12)), some (vI (nI 6)), none]) (st2 := [vI (9 : Int32), vR 3 0 0]) (m1 := (setA M a)) rfl ?_
  refine an_call (rc_count W (w := 9) (by omega)) rfl rfl rfl rfl ?_
  refine an_b 2 (pc2 := 496) (L2 := [some (vR 3 0 0), some (vR 8 0 0), some (vR 8 1 0), some (vR 8 2 0), some (vR 8 3 0), some (vR 8 4 0), some (vR 8 5 0), some (vR 8 6 0), some (vR 8 7 0), some (vR 8 8 0), some (vI (v_X5_allLocks m)), some (vI (v_X5_sumFrom m 337 8)), some (vI (v_X5_sumFrom m 345 8)), some (vI (v_X5_sumFrom m 353 8)), some (vI (v_X5_sumFrom m 125 12)), some (vI (nI 6)), none]) (st2 := [vI (2 : Int32), vR 8 0 0, vI (v_X5_counted m 9)]) (m1 := (setA M a)) rfl ?_
  refine an_la 0 2 (by decide) (by show _ < 7; omega) rfl rfl ?_
  refine an_b 1 (pc2 := if ¬ (v_X5_counted m 9) = (a 0 2) then 504 else 500) (L2 := [some (vR 3 0 0), some (vR 8 0 0), some (vR 8 1 0), some (vR 8 2 0), some (vR 8 3 0), some (vR 8 4 0), some (vR 8 5 0), some (vR 8 6 0), some (vR 8 7 0), some (vR 8 8 0), some (vI (v_X5_allLocks m)), some (vI (v_X5_sumFrom m 337 8)), some (vI (v_X5_sumFrom m 345 8)), some (vI (v_X5_sumFrom m 353 8)), some (vI (v_X5_sumFrom m 125 12)), some (vI (nI 6)), none]) (st2 := []) (m1 := (setA M a)) rfl ?_
  refine an_f (fun q => q d9) ?_
  refine an_b 2 (pc2 := 505) (L2 := [some (vR 3 0 0), some (vR 8 0 0), some (vR 8 1 0), some (vR 8 2 0), some (vR 8 3 0), some (vR 8 4 0), some (vR 8 5 0), some (vR 8 6 0), some (vR 8 7 0), some (vR 8 8 0), some (vI (v_X5_allLocks m)), some (vI (v_X5_sumFrom m 337 8)), some (vI (v_X5_sumFrom m 345 8)), some (vI (v_X5_sumFrom m 353 8)), some (vI (v_X5_sumFrom m 125 12)), some (vI (nI 6)), none]) (st2 := [vI (1 : Int32)]) (m1 := (setA M a)) rfl ?_
  exact an_ret rfl rfl rfl rfl rfl
end
