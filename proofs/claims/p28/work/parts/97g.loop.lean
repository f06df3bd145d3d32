/-! the law: sixty acts -/
def Tl (t : Nat) : Prop := t ≤ 8
theorem rv_mono {T U : Nat → Prop} (h : ∀ t, T t → U t) {v : PV} (q : RV T v) : RV U v := by
  rcases v with x | x | x | _ | ⟨t, k, g⟩
  · trivial
  · trivial
  · trivial
  · trivial
  · exact h t q
theorem cl_Tl : CLk Tl := ⟨fun m t k g s v ht h => by
  by_cases c : t ≤ 6
  · exact rv_mono (fun t h => Nat.le_trans (show t ≤ 6 from h) (by decide)) (cl_fv m t k g s v h c)
  · unfold fv at h
    split at h
    all_goals first | (exact absurd (by decide) c) | (cases h; done) | (exfalso; omega), fun _ => (show (0 : Nat) ≤ 8 by decide)⟩
theorem rs_l {k : Nat} {st : List PV} (h : RSk Tl st) : RSk Tl (vR 8 k 0 :: st) := rs_c (show (8 : Nat) ≤ 8 by decide) h
theorem rs_lo {st : List PV} (h : RSk Tl st) : RSk Tl (vR 3 0 0 :: st) := rs_c (show (3 : Nat) ≤ 8 by decide) h
theorem rs_li {st : List PV} {x : Int32} (h : RSk Tl st) : RSk Tl (vI x :: st) := rs_c trivial h
set_option maxRecDepth 100000 in
theorem an_law {L9 : Nat} (h9 : L9 < 2 ^ 31) : ∀ (d k : Nat) (M m : PM) (a : Nat → Nat → Int32) (s len K : Nat), k + d = 60 → WR (setA M a) m s len K → LA a (zz m) (s, 0) → (setA M a).1 10 0 1 0 = nI L9 → ∃ M2 a2, An ML_law 72 [some (vR 10 0 0), some (vR 3 0 0), some (vR 8 0 0), some (vR 8 1 0), some (vR 8 2 0), some (vR 8 3 0), some (vR 8 4 0), some (vR 8 5 0), some (vR 8 6 0), some (vR 8 7 0), some (vR 8 8 0), some (vI (nI k))] [] (setA M a) (.inl (some (vI 1))) (setA M2 a2) := by
  intro d
  induction d with
  | zero =>
    intro k M m a s len K hd W H hs
    obtain rfl : k = 60 := by omega
    refine ⟨M, a, ?_⟩
    refine an_b 3 (pc2 := if (60 : Int32) ≤ (nI 60) then 151 else 79) (L2 := [some (vR 10 0 0), some (vR 3 0 0), some (vR 8 0 0), some (vR 8 1 0), some (vR 8 2 0), some (vR 8 3 0), some (vR 8 4 0), some (vR 8 5 0), some (vR 8 6 0), some (vR 8 7 0), some (vR 8 8 0), some (vI (nI 60))]) (st2 := []) (m1 := (setA M a)) rfl ?_
    refine an_t (nI_le (Nat.le_refl 60) (by omega)) ?_
    refine an_b 1 (pc2 := 152) (L2 := [some (vR 10 0 0), some (vR 3 0 0), some (vR 8 0 0), some (vR 8 1 0), some (vR 8 2 0), some (vR 8 3 0), some (vR 8 4 0), some (vR 8 5 0), some (vR 8 6 0), some (vR 8 7 0), some (vR 8 8 0), some (vI (nI 60))]) (st2 := [vI (1 : Int32)]) (m1 := (setA M a)) rfl ?_
    exact an_ret rfl rfl rfl rfl rfl
  | succ d ih =>
    intro k M m a s len K hd W H hs
    obtain ⟨x, k1⟩ := r_cell (setA M a) (j := 2 * k) (by omega) hs h9
    obtain ⟨y, k2⟩ := r_cell (setA M a) (j := 2 * k + 1) (by omega) hs h9
    obtain ⟨M1, a1, m1, s1, K1, k3, W1, H1⟩ := r_act W H x y
    have hf := fr_rn cl_Tl (rs_lo (rs_li (rs_li (rs_l (rs_l (rs_l (rs_l (rs_l (rs_l (rs_l (rs_l (rs_l rs_0)))))))))))) k3
    have hs1 : (setA M1 a1).1 10 0 1 0 = nI L9 := (hf 10 0 1 0 (by unfold Tl; omega)).1.trans hs
    obtain ⟨M2, a2, k4⟩ := ih (k + 1) M1 m1 a1 s1 len K1 (by omega) W1 H1 hs1
    rw [← nI_1] at k4
    refine ⟨M2, a2, ?_⟩
    refine an_b 3 (pc2 := if (60 : Int32) ≤ (nI k) then 151 else 79) (L2 := [some (vR 10 0 0), some (vR 3 0 0), some (vR 8 0 0), some (vR 8 1 0), some (vR 8 2 0), some (vR 8 3 0), some (vR 8 4 0), some (vR 8 5 0), some (vR 8 6 0), some (vR 8 7 0), some (vR 8 8 0), some (vI (nI k))]) (st2 := []) (m1 := (setA M a)) rfl ?_
    refine an_f (nI_ge (b := 60) (by omega) (by omega)) ?_
    refine an_b 5 (pc2 := 85) (L2 := [some (vR 10 0 0), some (vR 3 0 0), some (vR 8 0 0), some (vR 8 1 0), some (vR 8 2 0), some (vR 8 3 0), some (vR 8 4 0), some (vR 8 5 0), some (vR 8 6 0), some (vR 8 7 0), some (vR 8 8 0), some (vI (nI k))]) (st2 := [vI ((2 : Int32) * (nI k)), vR 10 0 0, vR 3 0 0]) (m1 := (setA M a)) rfl ?_
    rw [show (2 : Int32) * nI k = nI (2 * k) from pk_mul 2 k]
    refine an_call k1 rfl rfl rfl rfl ?_
    refine an_b 6 (pc2 := 95) (L2 := [some (vR 10 0 0), some (vR 3 0 0), some (vR 8 0 0), some (vR 8 1 0), some (vR 8 2 0), some (vR 8 3 0), some (vR 8 4 0), some (vR 8 5 0), some (vR 8 6 0), some (vR 8 7 0), some (vR 8 8 0), some (vI (nI k))]) (st2 := [vI (((2 : Int32) * (nI k)) + (1 : Int32)), vR 10 0 0, vI x, vR 3 0 0]) (m1 := (setA M a)) rfl ?_
    rw [show ((2 : Int32) * nI k) + (1 : Int32) = nI (2 * k + 1) by rw [show (2 : Int32) * nI k = nI (2 * k) from pk_mul 2 k, nI_1]]
    refine an_call k2 rfl rfl rfl rfl ?_
    refine an_b 9 (pc2 := 114) (L2 := [some (vR 10 0 0), some (vR 3 0 0), some (vR 8 0 0), some (vR 8 1 0), some (vR 8 2 0), some (vR 8 3 0), some (vR 8 4 0), some (vR 8 5 0), some (vR 8 6 0), some (vR 8 7 0), some (vR 8 8 0), some (vI (nI k))]) (st2 := [vR 8 8 0, vR 8 7 0, vR 8 6 0, vR 8 5 0, vR 8 4 0, vR 8 3 0, vR 8 2 0, vR 8 1 0, vR 8 0 0, vI y, vI x, vR 3 0 0]) (m1 := (setA M a)) rfl ?_
    refine an_call k3 rfl rfl rfl rfl ?_
    refine an_b 1 (pc2 := if (1 : Int32) = 0 then 143 else 120) (L2 := [some (vR 10 0 0), some (vR 3 0 0), some (vR 8 0 0), some (vR 8 1 0), some (vR 8 2 0), some (vR 8 3 0), some (vR 8 4 0), some (vR 8 5 0), some (vR 8 6 0), some (vR 8 7 0), some (vR 8 8 0), some (vI (nI k))]) (st2 := []) (m1 := (setA M1 a1)) rfl ?_
    refine an_f (by decide) ?_
    refine an_b 10 (pc2 := 137) (L2 := [some (vR 10 0 0), some (vR 3 0 0), some (vR 8 0 0), some (vR 8 1 0), some (vR 8 2 0), some (vR 8 3 0), some (vR 8 4 0), some (vR 8 5 0), some (vR 8 6 0), some (vR 8 7 0), some (vR 8 8 0), some (vI (nI k))]) (st2 := [vR 8 8 0, vR 8 7 0, vR 8 6 0, vR 8 5 0, vR 8 4 0, vR 8 3 0, vR 8 2 0, vR 8 1 0, vR 8 0 0, vR 3 0 0]) (m1 := (setA M1 a1)) rfl ?_
    refine an_call (r_agree W1 H1) rfl rfl rfl rfl ?_
    refine an_b 1 (pc2 := if ¬ (1 : Int32) = 0 then 145 else 143) (L2 := [some (vR 10 0 0), some (vR 3 0 0), some (vR 8 0 0), some (vR 8 1 0), some (vR 8 2 0), some (vR 8 3 0), some (vR 8 4 0), some (vR 8 5 0), some (vR 8 6 0), some (vR 8 7 0), some (vR 8 8 0), some (vI (nI k))]) (st2 := []) (m1 := (setA M1 a1)) rfl ?_
    refine an_t (by decide) ?_
    refine an_b 2 (pc2 := 72) (L2 := [some (vR 10 0 0), some (vR 3 0 0), some (vR 8 0 0), some (vR 8 1 0), some (vR 8 2 0), some (vR 8 3 0), some (vR 8 4 0), some (vR 8 5 0), some (vR 8 6 0), some (vR 8 7 0), some (vR 8 8 0), some (vI ((nI k) + (1 : Int32)))]) (st2 := []) (m1 := (setA M1 a1)) rfl ?_
    exact k4
/-- from behind the making: the three settings, then the acts -/
def aS (a : Nat → Nat → Int32) : Nat → Nat → Int32 := up2 (up2 (up2 a 0 3 60) 0 4 1) 0 5 2
set_option maxRecDepth 100000 in
theorem an_law0 {L9 : Nat} (h9 : L9 < 2 ^ 31) {M m : PM} {a : Nat → Nat → Int32} {s len K : Nat} (W : WR (setA M (aS a)) m s len K) (H : LA (aS a) (zz m) (s, 0)) (hs : (setA M (aS a)).1 10 0 1 0 = nI L9) : ∃ M2 a2, An ML_law 56 [some (vR 10 0 0), some (vR 3 0 0), some (vR 8 0 0), some (vR 8 1 0), some (vR 8 2 0), some (vR 8 3 0), some (vR 8 4 0), some (vR 8 5 0), some (vR 8 6 0), some (vR 8 7 0), some (vR 8 8 0), none] [] (setA M a) (.inl (some (vI 1))) (setA M2 a2) := by
  obtain ⟨M2, a2, k⟩ := an_law h9 60 0 M m (aS a) s len K rfl W H hs
  refine ⟨M2, a2, ?_⟩
  refine an_b 3 (pc2 := 60) (L2 := [some (vR 10 0 0), some (vR 3 0 0), some (vR 8 0 0), some (vR 8 1 0), some (vR 8 2 0), some (vR 8 3 0), some (vR 8 4 0), some (vR 8 5 0), some (vR 8 6 0), some (vR 8 7 0), some (vR 8 8 0), none]) (st2 := [vI (60 : Int32), vI (3 : Int32), vR 8 0 0]) (m1 := (setA M a)) rfl ?_
  refine an_sa 0 3 (by decide) (by show _ < 7; omega) rfl rfl ?_
  refine an_b 3 (pc2 := 64) (L2 := [some (vR 10 0 0), some (vR 3 0 0), some (vR 8 0 0), some (vR 8 1 0), some (vR 8 2 0), some (vR 8 3 0), some (vR 8 4 0), some (vR 8 5 0), some (vR 8 6 0), some (vR 8 7 0), some (vR 8 8 0), none]) (st2 := [vI (1 : Int32), vI (4 : Int32), vR 8 0 0]) (m1 := (setA M (up2 a 0 3 (60 : Int32)))) rfl ?_
  refine an_sa 0 4 (by decide) (by show _ < 7; omega) rfl rfl ?_
  refine an_b 3 (pc2 := 68) (L2 := [some (vR 10 0 0), some (vR 3 0 0), some (vR 8 0 0), some (vR 8 1 0), some (vR 8 2 0), some (vR 8 3 0), some (vR 8 4 0), some (vR 8 5 0), some (vR 8 6 0), some (vR 8 7 0), some (vR 8 8 0), none]) (st2 := [vI (2 : Int32), vI (5 : Int32), vR 8 0 0]) (m1 := (setA M (up2 (up2 a 0 3 (60 : Int32)) 0 4 (1 : Int32)))) rfl ?_
  refine an_sa 0 5 (by decide) (by show _ < 7; omega) rfl rfl ?_
  refine an_b 2 (pc2 := 72) (L2 := [some (vR 10 0 0), some (vR 3 0 0), some (vR 8 0 0), some (vR 8 1 0), some (vR 8 2 0), some (vR 8 3 0), some (vR 8 4 0), some (vR 8 5 0), some (vR 8 6 0), some (vR 8 7 0), some (vR 8 8 0), some (vI (0 : Int32))]) (st2 := []) (m1 := (setA M (up2 (up2 (up2 a 0 3 (60 : Int32)) 0 4 (1 : Int32)) 0 5 (2 : Int32)))) rfl ?_
  exact k
