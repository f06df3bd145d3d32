/-! the law's act: ticks -/
section
variable {M : PM} {s : Nat × Int32} {h r t i : Nat} {x y ac ow bf : Int32}
def flg (q : Nat) : Int32 := if q = 0 then 0 else 1
set_option maxRecDepth 100000 in
theorem ht_rows : ∀ d j (a : Nat → Nat → Int32) (mm : PM), j + d = 6 → LA a (zz mm) s → LM a → ∃ a2, (∀ (v : OC) (m2 : PM), An ML_act 842 [some (vR 3 0 0), some (vI x), some (vI y), some (vR 8 0 0), some (vR 8 1 0), some (vR 8 2 0), some (vR 8 3 0), some (vR 8 4 0), some (vR 8 5 0), some (vR 8 6 0), some (vR 8 7 0), some (vR 8 8 0), some (vI ac), some (vI (nI h)), some (vI (nI r)), some (vI ow), some (vI (nI t)), some (vI bf), some (vI (nI i)), none, none, none] [] (setA M a2) v m2 → An ML_act 723 [some (vR 3 0 0), some (vI x), some (vI y), some (vR 8 0 0), some (vR 8 1 0), some (vR 8 2 0), some (vR 8 3 0), some (vR 8 4 0), some (vR 8 5 0), some (vR 8 6 0), some (vR 8 7 0), some (vR 8 8 0), some (vI ac), some (vI (nI h)), some (vI (nI r)), some (vI ow), some (vI (nI t)), some (vI bf), some (vI (nI i)), some (vI (nI j)), none, none] [] (setA M a) v m2) ∧ LA a2 (zz (lp b_X5_tick_1 d j mm)) s := by
  intro d
  induction d with
  | zero =>
    intro j a mm hd H hM
    obtain rfl : j = 6 := by omega
    refine ⟨a, fun v m2 hk => ?_, by rw [lp_0]; exact H⟩
    refine an_b 3 (pc2 := if (6 : Int32) ≤ (nI 6) then 842 else 730) (L2 := [some (vR 3 0 0), some (vI x), some (vI y), some (vR 8 0 0), some (vR 8 1 0), some (vR 8 2 0), some (vR 8 3 0), some (vR 8 4 0), some (vR 8 5 0), some (vR 8 6 0), some (vR 8 7 0), some (vR 8 8 0), some (vI ac), some (vI (nI h)), some (vI (nI r)), some (vI ow), some (vI (nI t)), some (vI bf), some (vI (nI i)), some (vI (nI 6)), none, none]) (st2 := []) (m1 := (setA M a)) rfl ?_
    refine an_t (nI_le (Nat.le_refl 6) (by omega)) ?_
    exact an_weak (L := [some (vR 3 0 0), some (vI x), some (vI y), some (vR 8 0 0), some (vR 8 1 0), some (vR 8 2 0), some (vR 8 3 0), some (vR 8 4 0), some (vR 8 5 0), some (vR 8 6 0), some (vR 8 7 0), some (vR 8 8 0), some (vI ac), some (vI (nI h)), some (vI (nI r)), some (vI ow), some (vI (nI t)), some (vI bf), some (vI (nI i)), none, none, none]) ⟨rfl, rfl, rfl, rfl, rfl, rfl, rfl, rfl, rfl, rfl, rfl, rfl, rfl, rfl, rfl, rfl, rfl, rfl, rfl, trivial⟩ hk
  | succ d ih =>
    intro j a mm hd H hM
    have hj : j < 6 := by omega
    obtain ⟨a2, k1, k2⟩ := ih (j + 1) (up2 a 4 j (clp (htA a j))) (b_X5_tick_1 j mm) (by omega) (la_tick1 H hM hj) (fun p j2 g1 g2 => by rw [up2_o _ _ _ _ (by decide)]; exact hM p j2 g1 g2)
    rw [lp_s]
    refine ⟨a2, fun v m2 hk => ?_, k2⟩
    have k3 := k1 v m2 hk
    rw [← nI_1] at k3
    have nx : ∀ X, X = up2 a 4 j (clp (htA a j)) → An ML_act 836 [some (vR 3 0 0), some (vI x), some (vI y), some (vR 8 0 0), some (vR 8 1 0), some (vR 8 2 0), some (vR 8 3 0), some (vR 8 4 0), some (vR 8 5 0), some (vR 8 6 0), some (vR 8 7 0), some (vR 8 8 0), some (vI ac), some (vI (nI h)), some (vI (nI r)), some (vI ow), some (vI (nI t)), some (vI bf), some (vI (nI i)), some (vI (nI j)), some (vI (gr5 a j)), some (vI (nI 5))] [] (setA M X) v m2 := by
      intro X eX
      subst eX
      refine an_b 2 (pc2 := 723) (L2 := [some (vR 3 0 0), some (vI x), some (vI y), some (vR 8 0 0), some (vR 8 1 0), some (vR 8 2 0), some (vR 8 3 0), some (vR 8 4 0), some (vR 8 5 0), some (vR 8 6 0), some (vR 8 7 0), some (vR 8 8 0), some (vI ac), some (vI (nI h)), some (vI (nI r)), some (vI ow), some (vI (nI t)), some (vI bf), some (vI (nI i)), some (vI ((nI j) + (1 : Int32))), some (vI (gr5 a j)), some (vI (nI 5))]) (st2 := []) (m1 := (setA M (up2 a 4 j (clp (htA a j))))) rfl ?_
      exact an_weak (L := [some (vR 3 0 0), some (vI x), some (vI y), some (vR 8 0 0), some (vR 8 1 0), some (vR 8 2 0), some (vR 8 3 0), some (vR 8 4 0), some (vR 8 5 0), some (vR 8 6 0), some (vR 8 7 0), some (vR 8 8 0), some (vI ac), some (vI (nI h)), some (vI (nI r)), some (vI ow), some (vI (nI t)), some (vI bf), some (vI (nI i)), some (vI (nI j + 1)), none, none]) ⟨rfl, rfl, rfl, rfl, rfl, rfl, rfl, rfl, rfl, rfl, rfl, rfl, rfl, rfl, rfl, rfl, rfl, rfl, rfl, rfl, trivial⟩ k3
    have J : ∀ X, X = htA a j → An ML_act 802 [some (vR 3 0 0), some (vI x), some (vI y), some (vR 8 0 0), some (vR 8 1 0), some (vR 8 2 0), some (vR 8 3 0), some (vR 8 4 0), some (vR 8 5 0), some (vR 8 6 0), some (vR 8 7 0), some (vR 8 8 0), some (vI ac), some (vI (nI h)), some (vI (nI r)), some (vI ow), some (vI (nI t)), some (vI bf), some (vI (nI i)), some (vI (nI j)), some (vI (gr5 a j)), some (vI (nI 5))] [vI X, vI (nI j), vR 8 4 0] (setA M a) v m2 := by
      intro X eX
      refine an_sa 4 j (by decide) (by show _ < 6; omega) rfl rfl ?_
      refine an_b 2 (pc2 := 807) (L2 := [some (vR 3 0 0), some (vI x), some (vI y), some (vR 8 0 0), some (vR 8 1 0), some (vR 8 2 0), some (vR 8 3 0), some (vR 8 4 0), some (vR 8 5 0), some (vR 8 6 0), some (vR 8 7 0), some (vR 8 8 0), some (vI ac), some (vI (nI h)), some (vI (nI r)), some (vI ow), some (vI (nI t)), some (vI bf), some (vI (nI i)), some (vI (nI j)), some (vI (gr5 a j)), some (vI (nI 5))]) (st2 := [vI (nI j), vR 8 4 0]) (m1 := (setA M (up2 a 4 j X))) rfl ?_
      refine an_la 4 j (by decide) (by show _ < 6; omega) rfl rfl ?_
      rw [up2_s]
      refine an_b 1 (pc2 := if 0 ≤ X then 817 else 811) (L2 := [some (vR 3 0 0), some (vI x), some (vI y), some (vR 8 0 0), some (vR 8 1 0), some (vR 8 2 0), some (vR 8 3 0), some (vR 8 4 0), some (vR 8 5 0), some (vR 8 6 0), some (vR 8 7 0), some (vR 8 8 0), some (vI ac), some (vI (nI h)), some (vI (nI r)), some (vI ow), some (vI (nI t)), some (vI bf), some (vI (nI i)), some (vI (nI j)), some (vI (gr5 a j)), some (vI (nI 5))]) (st2 := []) (m1 := (setA M (up2 a 4 j X))) rfl ?_
      unfold clp at nx
      rw [← eX] at nx
      by_cases c0 : 0 ≤ X
      · rw [if_pos c0] at nx
        refine an_t c0 ?_
        refine an_b 2 (pc2 := 821) (L2 := [some (vR 3 0 0), some (vI x), some (vI y), some (vR 8 0 0), some (vR 8 1 0), some (vR 8 2 0), some (vR 8 3 0), some (vR 8 4 0), some (vR 8 5 0), some (vR 8 6 0), some (vR 8 7 0), some (vR 8 8 0), some (vI ac), some (vI (nI h)), some (vI (nI r)), some (vI ow), some (vI (nI t)), some (vI bf), some (vI (nI i)), some (vI (nI j)), some (vI (gr5 a j)), some (vI (nI 5))]) (st2 := [vI (nI j), vR 8 4 0]) (m1 := (setA M (up2 a 4 j X))) rfl ?_
        refine an_la 4 j (by decide) (by show _ < 6; omega) rfl rfl ?_
        rw [up2_s]
        refine an_b 2 (pc2 := if X ≤ (1000 : Int32) then 836 else 828) (L2 := [some (vR 3 0 0), some (vI x), some (vI y), some (vR 8 0 0), some (vR 8 1 0), some (vR 8 2 0), some (vR 8 3 0), some (vR 8 4 0), some (vR 8 5 0), some (vR 8 6 0), some (vR 8 7 0), some (vR 8 8 0), some (vI ac), some (vI (nI h)), some (vI (nI r)), some (vI ow), some (vI (nI t)), some (vI bf), some (vI (nI i)), some (vI (nI j)), some (vI (gr5 a j)), some (vI (nI 5))]) (st2 := []) (m1 := (setA M (up2 a 4 j X))) rfl ?_
        by_cases c1 : X ≤ (1000 : Int32)
        · rw [if_pos c1] at nx
          refine an_t c1 ?_
          exact nx _ rfl
        · rw [if_neg c1] at nx
          refine an_f c1 ?_
          refine an_b 3 (pc2 := 835) (L2 := [some (vR 3 0 0), some (vI x), some (vI y), some (vR 8 0 0), some (vR 8 1 0), some (vR 8 2 0), some (vR 8 3 0), some (vR 8 4 0), some (vR 8 5 0), some (vR 8 6 0), some (vR 8 7 0), some (vR 8 8 0), some (vI ac), some (vI (nI h)), some (vI (nI r)), some (vI ow), some (vI (nI t)), some (vI bf), some (vI (nI i)), some (vI (nI j)), some (vI (gr5 a j)), some (vI (nI 5))]) (st2 := [vI (1000 : Int32), vI (nI j), vR 8 4 0]) (m1 := (setA M (up2 a 4 j X))) rfl ?_
          refine an_sa 4 j (by decide) (by show _ < 6; omega) rfl rfl ?_
          exact nx _ (up2_up2 _ _ _ _ _)
      · rw [if_neg c0] at nx
        refine an_f c0 ?_
        refine an_b 3 (pc2 := 816) (L2 := [some (vR 3 0 0), some (vI x), some (vI y), some (vR 8 0 0), some (vR 8 1 0), some (vR 8 2 0), some (vR 8 3 0), some (vR 8 4 0), some (vR 8 5 0), some (vR 8 6 0), some (vR 8 7 0), some (vR 8 8 0), some (vI ac), some (vI (nI h)), some (vI (nI r)), some (vI ow), some (vI (nI t)), some (vI bf), some (vI (nI i)), some (vI (nI j)), some (vI (gr5 a j)), some (vI (nI 5))]) (st2 := [vI (0 : Int32), vI (nI j), vR 8 4 0]) (m1 := (setA M (up2 a 4 j X))) rfl ?_
        refine an_sa 4 j (by decide) (by show _ < 6; omega) rfl rfl ?_
        refine an_b 2 (pc2 := 821) (L2 := [some (vR 3 0 0), some (vI x), some (vI y), some (vR 8 0 0), some (vR 8 1 0), some (vR 8 2 0), some (vR 8 3 0), some (vR 8 4 0), some (vR 8 5 0), some (vR 8 6 0), some (vR 8 7 0), some (vR 8 8 0), some (vI ac), some (vI (nI h)), some (vI (nI r)), some (vI ow), some (vI (nI t)), some (vI bf), some (vI (nI i)), some (vI (nI j)), some (vI (gr5 a j)), some (vI (nI 5))]) (st2 := [vI (nI j), vR 8 4 0]) (m1 := (setA M (up2 (up2 a 4 j X) 4 j (0 : Int32)))) rfl ?_
        refine an_la 4 j (by decide) (by show _ < 6; omega) rfl rfl ?_
        rw [up2_s]
        refine an_b 2 (pc2 := if (0 : Int32) ≤ (1000 : Int32) then 836 else 828) (L2 := [some (vR 3 0 0), some (vI x), some (vI y), some (vR 8 0 0), some (vR 8 1 0), some (vR 8 2 0), some (vR 8 3 0), some (vR 8 4 0), some (vR 8 5 0), some (vR 8 6 0), some (vR 8 7 0), some (vR 8 8 0), some (vI ac), some (vI (nI h)), some (vI (nI r)), some (vI ow), some (vI (nI t)), some (vI bf), some (vI (nI i)), some (vI (nI j)), some (vI (gr5 a j)), some (vI (nI 5))]) (st2 := []) (m1 := (setA M (up2 (up2 a 4 j X) 4 j (0 : Int32)))) rfl ?_
        refine an_t (by decide) ?_
        exact nx _ (up2_up2 _ _ _ _ _)
    refine an_b 3 (pc2 := if (6 : Int32) ≤ (nI j) then 842 else 730) (L2 := [some (vR 3 0 0), some (vI x), some (vI y), some (vR 8 0 0), some (vR 8 1 0), some (vR 8 2 0), some (vR 8 3 0), some (vR 8 4 0), some (vR 8 5 0), some (vR 8 6 0), some (vR 8 7 0), some (vR 8 8 0), some (vI ac), some (vI (nI h)), some (vI (nI r)), some (vI ow), some (vI (nI t)), some (vI bf), some (vI (nI i)), some (vI (nI j)), none, none]) (st2 := []) (m1 := (setA M a)) rfl ?_
    refine an_f (nI_ge (b := 6) hj (by omega)) ?_
    refine an_b 4 (pc2 := 736) (L2 := [some (vR 3 0 0), some (vI x), some (vI y), some (vR 8 0 0), some (vR 8 1 0), some (vR 8 2 0), some (vR 8 3 0), some (vR 8 4 0), some (vR 8 5 0), some (vR 8 6 0), some (vR 8 7 0), some (vR 8 8 0), some (vI ac), some (vI (nI h)), some (vI (nI r)), some (vI ow), some (vI (nI t)), some (vI bf), some (vI (nI i)), some (vI (nI j)), some (vI (0 : Int32)), some (vI (0 : Int32))]) (st2 := []) (m1 := (setA M a)) rfl ?_
    refine re_lp (grF a j) (fun p z => (736, [some (vR 3 0 0), some (vI x), some (vI y), some (vR 8 0 0), some (vR 8 1 0), some (vR 8 2 0), some (vR 8 3 0), some (vR 8 4 0), some (vR 8 5 0), some (vR 8 6 0), some (vR 8 7 0), some (vR 8 8 0), some (vI ac), some (vI (nI h)), some (vI (nI r)), some (vI ow), some (vI (nI t)), some (vI bf), some (vI (nI i)), some (vI (nI j)), some (vI z), some (vI (nI p))], [], setA M a)) 5 (fun z => (777, [some (vR 3 0 0), some (vI x), some (vI y), some (vR 8 0 0), some (vR 8 1 0), some (vR 8 2 0), some (vR 8 3 0), some (vR 8 4 0), some (vR 8 5 0), some (vR 8 6 0), some (vR 8 7 0), some (vR 8 8 0), some (vI ac), some (vI (nI h)), some (vI (nI r)), some (vI ow), some (vI (nI t)), some (vI bf), some (vI (nI i)), some (vI (nI j)), some (vI z), some (vI (nI 5))], [], setA M a)) (fun p z hp v9 m9 K9 => ?_) (fun z v9 m9 K9 => ?_) 5 0 _ rfl _ _ ?_
    · have K8 : An ML_act 736 [some (vR 3 0 0), some (vI x), some (vI y), some (vR 8 0 0), some (vR 8 1 0), some (vR 8 2 0), some (vR 8 3 0), some (vR 8 4 0), some (vR 8 5 0), some (vR 8 6 0), some (vR 8 7 0), some (vR 8 8 0), some (vI ac), some (vI (nI h)), some (vI (nI r)), some (vI ow), some (vI (nI t)), some (vI bf), some (vI (nI i)), some (vI (nI j)), some (vI (grF a j p z)), some (vI (nI (p + 1)))] [] (setA M a) v9 m9 := K9
      rw [← nI_1] at K8
      show An ML_act 736 [some (vR 3 0 0), some (vI x), some (vI y), some (vR 8 0 0), some (vR 8 1 0), some (vR 8 2 0), some (vR 8 3 0), some (vR 8 4 0), some (vR 8 5 0), some (vR 8 6 0), some (vR 8 7 0), some (vR 8 8 0), some (vI ac), some (vI (nI h)), some (vI (nI r)), some (vI ow), some (vI (nI t)), some (vI bf), some (vI (nI i)), some (vI (nI j)), some (vI z), some (vI (nI p))] [] (setA M a) v9 m9
      refine an_b 3 (pc2 := if (5 : Int32) ≤ (nI p) then 777 else 742) (L2 := [some (vR 3 0 0), some (vI x), some (vI y), some (vR 8 0 0), some (vR 8 1 0), some (vR 8 2 0), some (vR 8 3 0), some (vR 8 4 0), some (vR 8 5 0), some (vR 8 6 0), some (vR 8 7 0), some (vR 8 8 0), some (vI ac), some (vI (nI h)), some (vI (nI r)), some (vI ow), some (vI (nI t)), some (vI bf), some (vI (nI i)), some (vI (nI j)), some (vI z), some (vI (nI p))]) (st2 := []) (m1 := (setA M a)) rfl ?_
      refine an_f (nI_ge (b := 5) hp (by omega)) ?_
      refine an_b 6 (pc2 := 752) (L2 := [some (vR 3 0 0), some (vI x), some (vI y), some (vR 8 0 0), some (vR 8 1 0), some (vR 8 2 0), some (vR 8 3 0), some (vR 8 4 0), some (vR 8 5 0), some (vR 8 6 0), some (vR 8 7 0), some (vR 8 8 0), some (vI ac), some (vI (nI h)), some (vI (nI r)), some (vI ow), some (vI (nI t)), some (vI bf), some (vI (nI i)), some (vI (nI j)), some (vI z), some (vI (nI p))]) (st2 := [vI (((6 : Int32) * (nI p)) + (nI j)), vR 8 1 0]) (m1 := (setA M a)) rfl ?_
      refine an_la 1 ((6 * p) + j) (by decide) (by show _ < 30; omega) (by simp only [ix_lit, pk_mul, nI_add]) rfl ?_
      refine an_b 2 (pc2 := if (a 1 ((6 * p) + j)) ≤ z then 771 else 758) (L2 := [some (vR 3 0 0), some (vI x), some (vI y), some (vR 8 0 0), some (vR 8 1 0), some (vR 8 2 0), some (vR 8 3 0), some (vR 8 4 0), some (vR 8 5 0), some (vR 8 6 0), some (vR 8 7 0), some (vR 8 8 0), some (vI ac), some (vI (nI h)), some (vI (nI r)), some (vI ow), some (vI (nI t)), some (vI bf), some (vI (nI i)), some (vI (nI j)), some (vI z), some (vI (nI p))]) (st2 := []) (m1 := (setA M a)) rfl ?_
      unfold grF at K8
      by_cases c : a 1 (6 * p + j) ≤ z
      · rw [if_pos c] at K8
        refine an_t c ?_
        refine an_b 2 (pc2 := 736) (L2 := [some (vR 3 0 0), some (vI x), some (vI y), some (vR 8 0 0), some (vR 8 1 0), some (vR 8 2 0), some (vR 8 3 0), some (vR 8 4 0), some (vR 8 5 0), some (vR 8 6 0), some (vR 8 7 0), some (vR 8 8 0), some (vI ac), some (vI (nI h)), some (vI (nI r)), some (vI ow), some (vI (nI t)), some (vI bf), some (vI (nI i)), some (vI (nI j)), some (vI z), some (vI ((nI p) + (1 : Int32)))]) (st2 := []) (m1 := (setA M a)) rfl ?_
        exact K8
      · rw [if_neg c] at K8
        refine an_f c ?_
        refine an_b 6 (pc2 := 768) (L2 := [some (vR 3 0 0), some (vI x), some (vI y), some (vR 8 0 0), some (vR 8 1 0), some (vR 8 2 0), some (vR 8 3 0), some (vR 8 4 0), some (vR 8 5 0), some (vR 8 6 0), some (vR 8 7 0), some (vR 8 8 0), some (vI ac), some (vI (nI h)), some (vI (nI r)), some (vI ow), some (vI (nI t)), some (vI bf), some (vI (nI i)), some (vI (nI j)), some (vI z), some (vI (nI p))]) (st2 := [vI (((6 : Int32) * (nI p)) + (nI j)), vR 8 1 0]) (m1 := (setA M a)) rfl ?_
        refine an_la 1 ((6 * p) + j) (by decide) (by show _ < 30; omega) (by simp only [ix_lit, pk_mul, nI_add]) rfl ?_
        refine an_b 1 (pc2 := 771) (L2 := [some (vR 3 0 0), some (vI x), some (vI y), some (vR 8 0 0), some (vR 8 1 0), some (vR 8 2 0), some (vR 8 3 0), some (vR 8 4 0), some (vR 8 5 0), some (vR 8 6 0), some (vR 8 7 0), some (vR 8 8 0), some (vI ac), some (vI (nI h)), some (vI (nI r)), some (vI ow), some (vI (nI t)), some (vI bf), some (vI (nI i)), some (vI (nI j)), some (vI (a 1 ((6 * p) + j))), some (vI (nI p))]) (st2 := []) (m1 := (setA M a)) rfl ?_
        refine an_b 2 (pc2 := 736) (L2 := [some (vR 3 0 0), some (vI x), some (vI y), some (vR 8 0 0), some (vR 8 1 0), some (vR 8 2 0), some (vR 8 3 0), some (vR 8 4 0), some (vR 8 5 0), some (vR 8 6 0), some (vR 8 7 0), some (vR 8 8 0), some (vI ac), some (vI (nI h)), some (vI (nI r)), some (vI ow), some (vI (nI t)), some (vI bf), some (vI (nI i)), some (vI (nI j)), some (vI (a 1 ((6 * p) + j))), some (vI ((nI p) + (1 : Int32)))]) (st2 := []) (m1 := (setA M a)) rfl ?_
        exact K8
    · show An ML_act 736 [some (vR 3 0 0), some (vI x), some (vI y), some (vR 8 0 0), some (vR 8 1 0), some (vR 8 2 0), some (vR 8 3 0), some (vR 8 4 0), some (vR 8 5 0), some (vR 8 6 0), some (vR 8 7 0), some (vR 8 8 0), some (vI ac), some (vI (nI h)), some (vI (nI r)), some (vI ow), some (vI (nI t)), some (vI bf), some (vI (nI i)), some (vI (nI j)), some (vI z), some (vI (nI 5))] [] (setA M a) v9 m9
      refine an_b 3 (pc2 := if (5 : Int32) ≤ (nI 5) then 777 else 742) (L2 := [some (vR 3 0 0), some (vI x), some (vI y), some (vR 8 0 0), some (vR 8 1 0), some (vR 8 2 0), some (vR 8 3 0), some (vR 8 4 0), some (vR 8 5 0), some (vR 8 6 0), some (vR 8 7 0), some (vR 8 8 0), some (vI ac), some (vI (nI h)), some (vI (nI r)), some (vI ow), some (vI (nI t)), some (vI bf), some (vI (nI i)), some (vI (nI j)), some (vI z), some (vI (nI 5))]) (st2 := []) (m1 := (setA M a)) rfl ?_
      refine an_t (nI_le (Nat.le_refl 5) (by omega)) ?_
      exact K9
    show An ML_act 777 [some (vR 3 0 0), some (vI x), some (vI y), some (vR 8 0 0), some (vR 8 1 0), some (vR 8 2 0), some (vR 8 3 0), some (vR 8 4 0), some (vR 8 5 0), some (vR 8 6 0), some (vR 8 7 0), some (vR 8 8 0), some (vI ac), some (vI (nI h)), some (vI (nI r)), some (vI ow), some (vI (nI t)), some (vI bf), some (vI (nI i)), some (vI (nI j)), some (vI (gr5 a j)), some (vI (nI 5))] [] (setA M a) v m2
    refine an_b 3 (pc2 := 782) (L2 := [some (vR 3 0 0), some (vI x), some (vI y), some (vR 8 0 0), some (vR 8 1 0), some (vR 8 2 0), some (vR 8 3 0), some (vR 8 4 0), some (vR 8 5 0), some (vR 8 6 0), some (vR 8 7 0), some (vR 8 8 0), some (vI ac), some (vI (nI h)), some (vI (nI r)), some (vI ow), some (vI (nI t)), some (vI bf), some (vI (nI i)), some (vI (nI j)), some (vI (gr5 a j)), some (vI (nI 5))]) (st2 := [vI (nI j), vR 8 4 0, vI (nI j), vR 8 4 0]) (m1 := (setA M a)) rfl ?_
    refine an_la 4 j (by decide) (by show _ < 6; omega) rfl rfl ?_
    refine an_b 2 (pc2 := if ¬ (gr5 a j) = 0 then 795 else 788) (L2 := [some (vR 3 0 0), some (vI x), some (vI y), some (vR 8 0 0), some (vR 8 1 0), some (vR 8 2 0), some (vR 8 3 0), some (vR 8 4 0), some (vR 8 5 0), some (vR 8 6 0), some (vR 8 7 0), some (vR 8 8 0), some (vI ac), some (vI (nI h)), some (vI (nI r)), some (vI ow), some (vI (nI t)), some (vI bf), some (vI (nI i)), some (vI (nI j)), some (vI (gr5 a j)), some (vI (nI 5))]) (st2 := [vI (a 4 j), vI (nI j), vR 8 4 0]) (m1 := (setA M a)) rfl ?_
    by_cases cg : gr5 a j = 0
    · have e : a 4 j + -(a 0 5) = htA a j := by unfold htA; rw [if_pos cg]
      refine an_f (fun u => u cg) ?_
      refine an_b 2 (pc2 := 790) (L2 := [some (vR 3 0 0), some (vI x), some (vI y), some (vR 8 0 0), some (vR 8 1 0), some (vR 8 2 0), some (vR 8 3 0), some (vR 8 4 0), some (vR 8 5 0), some (vR 8 6 0), some (vR 8 7 0), some (vR 8 8 0), some (vI ac), some (vI (nI h)), some (vI (nI r)), some (vI ow), some (vI (nI t)), some (vI bf), some (vI (nI i)), some (vI (nI j)), some (vI (gr5 a j)), some (vI (nI 5))]) (st2 := [vI (5 : Int32), vR 8 0 0, vI (a 4 j), vI (nI j), vR 8 4 0]) (m1 := (setA M a)) rfl ?_
      refine an_la 0 5 (by decide) (by show _ < 7; omega) rfl rfl ?_
      refine an_b 2 (pc2 := 801) (L2 := [some (vR 3 0 0), some (vI x), some (vI y), some (vR 8 0 0), some (vR 8 1 0), some (vR 8 2 0), some (vR 8 3 0), some (vR 8 4 0), some (vR 8 5 0), some (vR 8 6 0), some (vR 8 7 0), some (vR 8 8 0), some (vI ac), some (vI (nI h)), some (vI (nI r)), some (vI ow), some (vI (nI t)), some (vI bf), some (vI (nI i)), some (vI (nI j)), some (vI (gr5 a j)), some (vI (nI 5))]) (st2 := [vI (-(a 0 5)), vI (a 4 j), vI (nI j), vR 8 4 0]) (m1 := (setA M a)) rfl ?_
      refine an_b 1 (pc2 := 802) (L2 := [some (vR 3 0 0), some (vI x), some (vI y), some (vR 8 0 0), some (vR 8 1 0), some (vR 8 2 0), some (vR 8 3 0), some (vR 8 4 0), some (vR 8 5 0), some (vR 8 6 0), some (vR 8 7 0), some (vR 8 8 0), some (vI ac), some (vI (nI h)), some (vI (nI r)), some (vI ow), some (vI (nI t)), some (vI bf), some (vI (nI i)), some (vI (nI j)), some (vI (gr5 a j)), some (vI (nI 5))]) (st2 := [vI ((a 4 j) + (-(a 0 5))), vI (nI j), vR 8 4 0]) (m1 := (setA M a)) rfl ?_
      exact J _ e
    · have e : a 4 j + gr5 a j * a 0 4 = htA a j := by unfold htA; rw [if_neg cg]
      refine an_t cg ?_
      refine an_b 3 (pc2 := 799) (L2 := [some (vR 3 0 0), some (vI x), some (vI y), some (vR 8 0 0), some (vR 8 1 0), some (vR 8 2 0), some (vR 8 3 0), some (vR 8 4 0), some (vR 8 5 0), some (vR 8 6 0), some (vR 8 7 0), some (vR 8 8 0), some (vI ac), some (vI (nI h)), some (vI (nI r)), some (vI ow), some (vI (nI t)), some (vI bf), some (vI (nI i)), some (vI (nI j)), some (vI (gr5 a j)), some (vI (nI 5))]) (st2 := [vI (4 : Int32), vR 8 0 0, vI (gr5 a j), vI (a 4 j), vI (nI j), vR 8 4 0]) (m1 := (setA M a)) rfl ?_
      refine an_la 0 4 (by decide) (by show _ < 7; omega) rfl rfl ?_
      refine an_b 1 (pc2 := 801) (L2 := [some (vR 3 0 0), some (vI x), some (vI y), some (vR 8 0 0), some (vR 8 1 0), some (vR 8 2 0), some (vR 8 3 0), some (vR 8 4 0), some (vR 8 5 0), some (vR 8 6 0), some (vR 8 7 0), some (vR 8 8 0), some (vI ac), some (vI (nI h)), some (vI (nI r)), some (vI ow), some (vI (nI t)), some (vI bf), some (vI (nI i)), some (vI (nI j)), some (vI (gr5 a j)), some (vI (nI 5))]) (st2 := [vI ((gr5 a j) * (a 0 4)), vI (a 4 j), vI (nI j), vR 8 4 0]) (m1 := (setA M a)) rfl ?_
      refine an_b 1 (pc2 := 802) (L2 := [some (vR 3 0 0), some (vI x), some (vI y), some (vR 8 0 0), some (vR 8 1 0), some (vR 8 2 0), some (vR 8 3 0), some (vR 8 4 0), some (vR 8 5 0), some (vR 8 6 0), some (vR 8 7 0), some (vR 8 8 0), some (vI ac), some (vI (nI h)), some (vI (nI r)), some (vI ow), some (vI (nI t)), some (vI bf), some (vI (nI i)), some (vI (nI j)), some (vI (gr5 a j)), some (vI (nI 5))]) (st2 := [vI ((a 4 j) + ((gr5 a j) * (a 0 4))), vI (nI j), vR 8 4 0]) (m1 := (setA M a)) rfl ?_
      exact J _ e
set_option maxRecDepth 100000 in
theorem bn_row (m0 : PM) {j : Nat} (hj : j < 6) : ∀ d p (a : Nat → Nat → Int32) (q : Nat) (mj : PM), p + d = 5 → q ≤ p → LA a (upd (zz mj) 4 (zz mj 4 + nI q)) s → ∃ a2 q2, (∀ (v : OC) (m2 : PM), An ML_act 926 [some (vR 3 0 0), some (vI x), some (vI y), some (vR 8 0 0), some (vR 8 1 0), some (vR 8 2 0), some (vR 8 3 0), some (vR 8 4 0), some (vR 8 5 0), some (vR 8 6 0), some (vR 8 7 0), some (vR 8 8 0), some (vI ac), some (vI (nI h)), some (vI (nI r)), some (vI ow), some (vI (nI t)), some (vI bf), some (vI (nI i)), some (vI (nI j)), some (vI (flg q2)), none] [] (setA M a2) v m2 → An ML_act 869 [some (vR 3 0 0), some (vI x), some (vI y), some (vR 8 0 0), some (vR 8 1 0), some (vR 8 2 0), some (vR 8 3 0), some (vR 8 4 0), some (vR 8 5 0), some (vR 8 6 0), some (vR 8 7 0), some (vR 8 8 0), some (vI ac), some (vI (nI h)), some (vI (nI r)), some (vI ow), some (vI (nI t)), some (vI bf), some (vI (nI i)), some (vI (nI j)), some (vI (flg q)), some (vI (nI p))] [] (setA M a) v m2) ∧ (lp (b_X5_burn_1 m0 j) d p (nI q, mj)).1 = nI q2 ∧ q2 ≤ 5 ∧ LA a2 (upd (zz (lp (b_X5_burn_1 m0 j) d p (nI q, mj)).2) 4 (zz (lp (b_X5_burn_1 m0 j) d p (nI q, mj)).2 4 + nI q2)) s := by
  intro d
  induction d with
  | zero =>
    intro p a q mj hd hq H
    obtain rfl : p = 5 := by omega
    refine ⟨a, q, fun v m2 hk => ?_, by rw [lp_0], hq, by rw [lp_0]; exact H⟩
    refine an_b 3 (pc2 := if (5 : Int32) ≤ (nI 5) then 926 else 875) (L2 := [some (vR 3 0 0), some (vI x), some (vI y), some (vR 8 0 0), some (vR 8 1 0), some (vR 8 2 0), some (vR 8 3 0), some (vR 8 4 0), some (vR 8 5 0), some (vR 8 6 0), some (vR 8 7 0), some (vR 8 8 0), some (vI ac), some (vI (nI h)), some (vI (nI r)), some (vI ow), some (vI (nI t)), some (vI bf), some (vI (nI i)), some (vI (nI j)), some (vI (flg q)), some (vI (nI 5))]) (st2 := []) (m1 := (setA M a)) rfl ?_
    refine an_t (nI_le (Nat.le_refl 5) (by omega)) ?_
    exact an_weak (L := [some (vR 3 0 0), some (vI x), some (vI y), some (vR 8 0 0), some (vR 8 1 0), some (vR 8 2 0), some (vR 8 3 0), some (vR 8 4 0), some (vR 8 5 0), some (vR 8 6 0), some (vR 8 7 0), some (vR 8 8 0), some (vI ac), some (vI (nI h)), some (vI (nI r)), some (vI ow), some (vI (nI t)), some (vI bf), some (vI (nI i)), some (vI (nI j)), some (vI (flg q)), none]) ⟨rfl, rfl, rfl, rfl, rfl, rfl, rfl, rfl, rfl, rfl, rfl, rfl, rfl, rfl, rfl, rfl, rfl, rfl, rfl, rfl, rfl, trivial⟩ hk
  | succ d ih =>
    intro p a q mj hd hq H
    have hp : p < 5 := by omega
    have el : a 1 (6 * p + j) = v_X5_lockOf mj p j := by
      rw [H.1.1 p j hp hj, upd_o _ _ _ (by omega)]
      rfl
    rw [lp_s]
    by_cases c : v_X5_lockOf mj p j ≤ 0
    · have e : b_X5_burn_1 m0 j p (nI q, mj) = (nI q, mj) := by
        unfold b_X5_burn_1
        try dsimp only
        rw [if_pos c, if_pos c]
      rw [e]
      obtain ⟨a2, q2, k1, k2, k3, k4⟩ := ih (p + 1) a q mj (by omega) (by omega) H
      refine ⟨a2, q2, fun v m2 hk => ?_, k2, k3, k4⟩
      have k5 := k1 v m2 hk
      rw [← nI_1] at k5
      refine an_b 3 (pc2 := if (5 : Int32) ≤ (nI p) then 926 else 875) (L2 := [some (vR 3 0 0), some (vI x), some (vI y), some (vR 8 0 0), some (vR 8 1 0), some (vR 8 2 0), some (vR 8 3 0), some (vR 8 4 0), some (vR 8 5 0), some (vR 8 6 0), some (vR 8 7 0), some (vR 8 8 0), some (vI ac), some (vI (nI h)), some (vI (nI r)), some (vI ow), some (vI (nI t)), some (vI bf), some (vI (nI i)), some (vI (nI j)), some (vI (flg q)), some (vI (nI p))]) (st2 := []) (m1 := (setA M a)) rfl ?_
      refine an_f (nI_ge (b := 5) hp (by omega)) ?_
      refine an_b 6 (pc2 := 885) (L2 := [some (vR 3 0 0), some (vI x), some (vI y), some (vR 8 0 0), some (vR 8 1 0), some (vR 8 2 0), some (vR 8 3 0), some (vR 8 4 0), some (vR 8 5 0), some (vR 8 6 0), some (vR 8 7 0), some (vR 8 8 0), some (vI ac), some (vI (nI h)), some (vI (nI r)), some (vI ow), some (vI (nI t)), some (vI bf), some (vI (nI i)), some (vI (nI j)), some (vI (flg q)), some (vI (nI p))]) (st2 := [vI (((6 : Int32) * (nI p)) + (nI j)), vR 8 1 0]) (m1 := (setA M a)) rfl ?_
      refine an_la 1 ((6 * p) + j) (by decide) (by show _ < 30; omega) (by simp only [ix_lit, pk_mul, nI_add]) rfl ?_
      refine an_b 1 (pc2 := if (v_X5_lockOf mj p j) ≤ 0 then 920 else 889) (L2 := [some (vR 3 0 0), some (vI x), some (vI y), some (vR 8 0 0), some (vR 8 1 0), some (vR 8 2 0), some (vR 8 3 0), some (vR 8 4 0), some (vR 8 5 0), some (vR 8 6 0), some (vR 8 7 0), some (vR 8 8 0), some (vI ac), some (vI (nI h)), some (vI (nI r)), some (vI ow), some (vI (nI t)), some (vI bf), some (vI (nI i)), some (vI (nI j)), some (vI (flg q)), some (vI (nI p))]) (st2 := []) (m1 := (setA M a)) (by rw [← el]; rfl) ?_
      refine an_t c ?_
      refine an_b 2 (pc2 := 869) (L2 := [some (vR 3 0 0), some (vI x), some (vI y), some (vR 8 0 0), some (vR 8 1 0), some (vR 8 2 0), some (vR 8 3 0), some (vR 8 4 0), some (vR 8 5 0), some (vR 8 6 0), some (vR 8 7 0), some (vR 8 8 0), some (vI ac), some (vI (nI h)), some (vI (nI r)), some (vI ow), some (vI (nI t)), some (vI bf), some (vI (nI i)), some (vI (nI j)), some (vI (flg q)), some (vI ((nI p) + (1 : Int32)))]) (st2 := []) (m1 := (setA M a)) rfl ?_
      exact k5
    · have e : b_X5_burn_1 m0 j p (nI q, mj) = (nI (q + 1), wI (w_X5_setLock mj p j 0) 8 0 0 (329 + p) (zz mj (329 + p) + 1)) := by
        unfold b_X5_burn_1
        try dsimp only
        rw [if_neg c, if_neg c, nI_1]
        congr 2
        show zz (w_X5_setLock mj p j 0) (329 + p) + 1 = _
        rw [zz_setLock, upd_o _ _ _ (by omega)]
      have e5 : a 5 p = zz mj (329 + p) := by
        have k := (H.2.2.1 0 (by omega)).1 p hp
        rw [upd_o _ _ _ (by omega)] at k
        exact k
      have e1 : a 0 1 = zz mj 4 + nI q := by
        have k := H.2.2.2.2.2.1
        rw [upd_s] at k
        exact k
      rw [e]
      have H2 : LA (up2 (up2 (up2 a 1 (6 * p + j) 0) 5 p (a 5 p + 1)) 0 1 (a 0 1 + 1)) (upd (zz (wI (w_X5_setLock mj p j 0) 8 0 0 (329 + p) (zz mj (329 + p) + 1))) 4 (zz (wI (w_X5_setLock mj p j 0) 8 0 0 (329 + p) (zz mj (329 + p) + 1)) 4 + nI (q + 1))) s := by
        refine la_cong (la_4 (la_cnt (la_set H hp hj 0) (k := 0) (by omega) hp (a 5 p + 1)) (a 0 1 + 1)) (fun i hi => ?_)
        rw [zz_wI, zz_setLock]
        by_cases c4 : i = 4
        · rw [c4, upd_s, upd_s, upd_o _ _ _ (by omega), upd_o _ _ _ (by omega), e1, ← nI_1, Int32.add_assoc]
        · rw [upd_o _ _ _ c4, upd_o _ _ _ c4]
          show _ = upd (upd (upd (zz mj) 4 (zz mj 4 + nI q)) (5 + 12 * p + j) 0) (329 + p) (a 5 p + 1) i
          rw [e5]
          by_cases c5 : i = 329 + p
          · rw [c5, upd_s, upd_s]
          · rw [upd_o _ _ _ c5, upd_o _ _ _ c5]
            by_cases c6 : i = 5 + 12 * p + j
            · rw [c6, upd_s, upd_s]
            · rw [upd_o _ _ _ c6, upd_o _ _ _ c6, upd_o _ _ _ c4]
      obtain ⟨a2, q2, k1, k2, k3, k4⟩ := ih (p + 1) _ (q + 1) _ (by omega) (by omega) H2
      refine ⟨a2, q2, fun v m2 hk => ?_, k2, k3, k4⟩
      have k5 := k1 v m2 hk
      rw [← nI_1, show flg (q + 1) = 1 from rfl] at k5
      refine an_b 3 (pc2 := if (5 : Int32) ≤ (nI p) then 926 else 875) (L2 := [some (vR 3 0 0), some (vI x), some (vI y), some (vR 8 0 0), some (vR 8 1 0), some (vR 8 2 0), some (vR 8 3 0), some (vR 8 4 0), some (vR 8 5 0), some (vR 8 6 0), some (vR 8 7 0), some (vR 8 8 0), some (vI ac), some (vI (nI h)), some (vI (nI r)), some (vI ow), some (vI (nI t)), some (vI bf), some (vI (nI i)), some (vI (nI j)), some (vI (flg q)), some (vI (nI p))]) (st2 := []) (m1 := (setA M a)) rfl ?_
      refine an_f (nI_ge (b := 5) hp (by omega)) ?_
      refine an_b 6 (pc2 := 885) (L2 := [some (vR 3 0 0), some (vI x), some (vI y), some (vR 8 0 0), some (vR 8 1 0), some (vR 8 2 0), some (vR 8 3 0), some (vR 8 4 0), some (vR 8 5 0), some (vR 8 6 0), some (vR 8 7 0), some (vR 8 8 0), some (vI ac), some (vI (nI h)), some (vI (nI r)), some (vI ow), some (vI (nI t)), some (vI bf), some (vI (nI i)), some (vI (nI j)), some (vI (flg q)), some (vI (nI p))]) (st2 := [vI (((6 : Int32) * (nI p)) + (nI j)), vR 8 1 0]) (m1 := (setA M a)) rfl ?_
      refine an_la 1 ((6 * p) + j) (by decide) (by show _ < 30; omega) (by simp only [ix_lit, pk_mul, nI_add]) rfl ?_
      refine an_b 1 (pc2 := if (v_X5_lockOf mj p j) ≤ 0 then 920 else 889) (L2 := [some (vR 3 0 0), some (vI x), some (vI y), some (vR 8 0 0), some (vR 8 1 0), some (vR 8 2 0), some (vR 8 3 0), some (vR 8 4 0), some (vR 8 5 0), some (vR 8 6 0), some (vR 8 7 0), some (vR 8 8 0), some (vI ac), some (vI (nI h)), some (vI (nI r)), some (vI ow), some (vI (nI t)), some (vI bf), some (vI (nI i)), some (vI (nI j)), some (vI (flg q)), some (vI (nI p))]) (st2 := []) (m1 := (setA M a)) (by rw [← el]; rfl) ?_
      refine an_f c ?_
      refine an_b 7 (pc2 := 900) (L2 := [some (vR 3 0 0), some (vI x), some (vI y), some (vR 8 0 0), some (vR 8 1 0), some (vR 8 2 0), some (vR 8 3 0), some (vR 8 4 0), some (vR 8 5 0), some (vR 8 6 0), some (vR 8 7 0), some (vR 8 8 0), some (vI ac), some (vI (nI h)), some (vI (nI r)), some (vI ow), some (vI (nI t)), some (vI bf), some (vI (nI i)), some (vI (nI j)), some (vI (flg q)), some (vI (nI p))]) (st2 := [vI (0 : Int32), vI (((6 : Int32) * (nI p)) + (nI j)), vR 8 1 0]) (m1 := (setA M a)) rfl ?_
      refine an_sa 1 ((6 * p) + j) (by decide) (by show _ < 30; omega) (by simp only [ix_lit, pk_mul, nI_add]) rfl ?_
      refine an_b 3 (pc2 := 906) (L2 := [some (vR 3 0 0), some (vI x), some (vI y), some (vR 8 0 0), some (vR 8 1 0), some (vR 8 2 0), some (vR 8 3 0), some (vR 8 4 0), some (vR 8 5 0), some (vR 8 6 0), some (vR 8 7 0), some (vR 8 8 0), some (vI ac), some (vI (nI h)), some (vI (nI r)), some (vI ow), some (vI (nI t)), some (vI bf), some (vI (nI i)), some (vI (nI j)), some (vI (flg q)), some (vI (nI p))]) (st2 := [vI (nI p), vR 8 5 0, vI (nI p), vR 8 5 0]) (m1 := (setA M (up2 a 1 ((6 * p) + j) (0 : Int32)))) rfl ?_
      refine an_la 5 p (by decide) (by show _ < 5; omega) rfl rfl ?_
      refine an_b 2 (pc2 := 909) (L2 := [some (vR 3 0 0), some (vI x), some (vI y), some (vR 8 0 0), some (vR 8 1 0), some (vR 8 2 0), some (vR 8 3 0), some (vR 8 4 0), some (vR 8 5 0), some (vR 8 6 0), some (vR 8 7 0), some (vR 8 8 0), some (vI ac), some (vI (nI h)), some (vI (nI r)), some (vI ow), some (vI (nI t)), some (vI bf), some (vI (nI i)), some (vI (nI j)), some (vI (flg q)), some (vI (nI p))]) (st2 := [vI (((up2 a 1 ((6 * p) + j) (0 : Int32)) 5 p) + (1 : Int32)), vI (nI p), vR 8 5 0]) (m1 := (setA M (up2 a 1 ((6 * p) + j) (0 : Int32)))) rfl ?_
      rw [up2_o a 1 (6 * p + j) 0 (show ¬ 5 = 1 by decide)]
      refine an_sa 5 p (by decide) (by show _ < 5; omega) rfl rfl ?_
      refine an_b 3 (pc2 := 913) (L2 := [some (vR 3 0 0), some (vI x), some (vI y), some (vR 8 0 0), some (vR 8 1 0), some (vR 8 2 0), some (vR 8 3 0), some (vR 8 4 0), some (vR 8 5 0), some (vR 8 6 0), some (vR 8 7 0), some (vR 8 8 0), some (vI ac), some (vI (nI h)), some (vI (nI r)), some (vI ow), some (vI (nI t)), some (vI bf), some (vI (nI i)), some (vI (nI j)), some (vI (flg q)), some (vI (nI p))]) (st2 := [vI (1 : Int32), vR 8 0 0, vI (1 : Int32), vR 8 0 0]) (m1 := (setA M (up2 (up2 a 1 ((6 * p) + j) (0 : Int32)) 5 p ((a 5 p) + (1 : Int32))))) rfl ?_
      refine an_la 0 1 (by decide) (by show _ < 7; omega) rfl rfl ?_
      refine an_b 2 (pc2 := 916) (L2 := [some (vR 3 0 0), some (vI x), some (vI y), some (vR 8 0 0), some (vR 8 1 0), some (vR 8 2 0), some (vR 8 3 0), some (vR 8 4 0), some (vR 8 5 0), some (vR 8 6 0), some (vR 8 7 0), some (vR 8 8 0), some (vI ac), some (vI (nI h)), some (vI (nI r)), some (vI ow), some (vI (nI t)), some (vI bf), some (vI (nI i)), some (vI (nI j)), some (vI (flg q)), some (vI (nI p))]) (st2 := [vI (((up2 (up2 a 1 ((6 * p) + j) (0 : Int32)) 5 p ((a 5 p) + (1 : Int32))) 0 1) + (1 : Int32)), vI (1 : Int32), vR 8 0 0]) (m1 := (setA M (up2 (up2 a 1 ((6 * p) + j) (0 : Int32)) 5 p ((a 5 p) + (1 : Int32))))) rfl ?_
      rw [up2_o _ _ _ _ (show ¬ 0 = 5 by decide), up2_o a 1 (6 * p + j) 0 (show ¬ 0 = 1 by decide)]
      refine an_sa 0 1 (by decide) (by show _ < 7; omega) rfl rfl ?_
      refine an_b 2 (pc2 := 920) (L2 := [some (vR 3 0 0), some (vI x), some (vI y), some (vR 8 0 0), some (vR 8 1 0), some (vR 8 2 0), some (vR 8 3 0), some (vR 8 4 0), some (vR 8 5 0), some (vR 8 6 0), some (vR 8 7 0), some (vR 8 8 0), some (vI ac), some (vI (nI h)), some (vI (nI r)), some (vI ow), some (vI (nI t)), some (vI bf), some (vI (nI i)), some (vI (nI j)), some (vI (1 : Int32)), some (vI (nI p))]) (st2 := []) (m1 := (setA M (up2 (up2 (up2 a 1 ((6 * p) + j) (0 : Int32)) 5 p ((a 5 p) + (1 : Int32))) 0 1 ((a 0 1) + (1 : Int32))))) rfl ?_
      refine an_b 2 (pc2 := 869) (L2 := [some (vR 3 0 0), some (vI x), some (vI y), some (vR 8 0 0), some (vR 8 1 0), some (vR 8 2 0), some (vR 8 3 0), some (vR 8 4 0), some (vR 8 5 0), some (vR 8 6 0), some (vR 8 7 0), some (vR 8 8 0), some (vI ac), some (vI (nI h)), some (vI (nI r)), some (vI ow), some (vI (nI t)), some (vI bf), some (vI (nI i)), some (vI (nI j)), some (vI (1 : Int32)), some (vI ((nI p) + (1 : Int32)))]) (st2 := []) (m1 := (setA M (up2 (up2 (up2 a 1 ((6 * p) + j) (0 : Int32)) 5 p ((a 5 p) + (1 : Int32))) 0 1 ((a 0 1) + (1 : Int32))))) rfl ?_
      exact k5
set_option maxRecDepth 100000 in
theorem bn_rows : ∀ d j (a : Nat → Nat → Int32) (z : Int32) (mm : PM), j + d = 6 → LA a (zz mm) s → ∃ a2, (∀ (v : OC) (m2 : PM), An ML_act 952 [some (vR 3 0 0), some (vI x), some (vI y), some (vR 8 0 0), some (vR 8 1 0), some (vR 8 2 0), some (vR 8 3 0), some (vR 8 4 0), some (vR 8 5 0), some (vR 8 6 0), some (vR 8 7 0), some (vR 8 8 0), some (vI ac), some (vI (nI h)), some (vI (nI r)), some (vI ow), some (vI (nI t)), some (vI bf), some (vI (nI i)), none, none, none] [] (setA M a2) v m2 → An ML_act 845 [some (vR 3 0 0), some (vI x), some (vI y), some (vR 8 0 0), some (vR 8 1 0), some (vR 8 2 0), some (vR 8 3 0), some (vR 8 4 0), some (vR 8 5 0), some (vR 8 6 0), some (vR 8 7 0), some (vR 8 8 0), some (vI ac), some (vI (nI h)), some (vI (nI r)), some (vI ow), some (vI (nI t)), some (vI bf), some (vI (nI i)), some (vI (nI j)), none, none] [] (setA M a) v m2) ∧ LA a2 (zz (lp b_X5_tick_2 d j (z, mm)).2) s := by
  intro d
  induction d with
  | zero =>
    intro j a z mm hd H
    obtain rfl : j = 6 := by omega
    refine ⟨a, fun v m2 hk => ?_, by rw [lp_0]; exact H⟩
    refine an_b 3 (pc2 := if (6 : Int32) ≤ (nI 6) then 952 else 852) (L2 := [some (vR 3 0 0), some (vI x), some (vI y), some (vR 8 0 0), some (vR 8 1 0), some (vR 8 2 0), some (vR 8 3 0), some (vR 8 4 0), some (vR 8 5 0), some (vR 8 6 0), some (vR 8 7 0), some (vR 8 8 0), some (vI ac), some (vI (nI h)), some (vI (nI r)), some (vI ow), some (vI (nI t)), some (vI bf), some (vI (nI i)), some (vI (nI 6)), none, none]) (st2 := []) (m1 := (setA M a)) rfl ?_
    refine an_t (nI_le (Nat.le_refl 6) (by omega)) ?_
    exact an_weak (L := [some (vR 3 0 0), some (vI x), some (vI y), some (vR 8 0 0), some (vR 8 1 0), some (vR 8 2 0), some (vR 8 3 0), some (vR 8 4 0), some (vR 8 5 0), some (vR 8 6 0), some (vR 8 7 0), some (vR 8 8 0), some (vI ac), some (vI (nI h)), some (vI (nI r)), some (vI ow), some (vI (nI t)), some (vI bf), some (vI (nI i)), none, none, none]) ⟨rfl, rfl, rfl, rfl, rfl, rfl, rfl, rfl, rfl, rfl, rfl, rfl, rfl, rfl, rfl, rfl, rfl, rfl, rfl, trivial⟩ hk
  | succ d ih =>
    intro j a z mm hd H
    have hj : j < 6 := by omega
    have e4 : a 4 j = zz mm (101 + j) := H.2.2.2.1 j hj
    have e3 : a 0 3 = zz mm 0 := H.2.2.2.2.2.2.2.1
    rw [lp_s]
    have tl : ∀ (b : Nat → Nat → Int32) (v : OC) (m2 : PM), An ML_act 845 [some (vR 3 0 0), some (vI x), some (vI y), some (vR 8 0 0), some (vR 8 1 0), some (vR 8 2 0), some (vR 8 3 0), some (vR 8 4 0), some (vR 8 5 0), some (vR 8 6 0), some (vR 8 7 0), some (vR 8 8 0), some (vI ac), some (vI (nI h)), some (vI (nI r)), some (vI ow), some (vI (nI t)), some (vI bf), some (vI (nI i)), some (vI (nI (j + 1))), none, none] [] (setA M b) v m2 → An ML_act 946 [some (vR 3 0 0), some (vI x), some (vI y), some (vR 8 0 0), some (vR 8 1 0), some (vR 8 2 0), some (vR 8 3 0), some (vR 8 4 0), some (vR 8 5 0), some (vR 8 6 0), some (vR 8 7 0), some (vR 8 8 0), some (vI ac), some (vI (nI h)), some (vI (nI r)), some (vI ow), some (vI (nI t)), some (vI bf), some (vI (nI i)), some (vI (nI j)), none, none] [] (setA M b) v m2 := by
      intro b v m2 k
      rw [← nI_1] at k
      refine an_b 2 (pc2 := 845) (L2 := [some (vR 3 0 0), some (vI x), some (vI y), some (vR 8 0 0), some (vR 8 1 0), some (vR 8 2 0), some (vR 8 3 0), some (vR 8 4 0), some (vR 8 5 0), some (vR 8 6 0), some (vR 8 7 0), some (vR 8 8 0), some (vI ac), some (vI (nI h)), some (vI (nI r)), some (vI ow), some (vI (nI t)), some (vI bf), some (vI (nI i)), some (vI ((nI j) + (1 : Int32))), none, none]) (st2 := []) (m1 := (setA M b)) rfl ?_
      exact k
    by_cases c : zz mm (101 + j) ≤ zz mm 0
    · have e : (b_X5_tick_2 j (z, mm)).2 = mm := by
        unfold b_X5_tick_2 tickV tickW
        try dsimp only
        rw [if_pos (show mm.1 8 0 0 (101 + j) ≤ mm.1 8 0 0 0 from c), if_pos (show (0 : Int32) ≤ 0 by decide), if_pos (show mm.1 8 0 0 (101 + j) ≤ mm.1 8 0 0 0 from c)]
      obtain ⟨a2, k1, k2⟩ := ih (j + 1) a (b_X5_tick_2 j (z, mm)).1 mm (by omega) H
      rw [show b_X5_tick_2 j (z, mm) = ((b_X5_tick_2 j (z, mm)).1, mm) from Prod.ext rfl e]
      refine ⟨a2, fun v m2 hk => ?_, k2⟩
      have k3 := tl a v m2 (k1 v m2 hk)
      refine an_b 3 (pc2 := if (6 : Int32) ≤ (nI j) then 952 else 852) (L2 := [some (vR 3 0 0), some (vI x), some (vI y), some (vR 8 0 0), some (vR 8 1 0), some (vR 8 2 0), some (vR 8 3 0), some (vR 8 4 0), some (vR 8 5 0), some (vR 8 6 0), some (vR 8 7 0), some (vR 8 8 0), some (vI ac), some (vI (nI h)), some (vI (nI r)), some (vI ow), some (vI (nI t)), some (vI bf), some (vI (nI i)), some (vI (nI j)), none, none]) (st2 := []) (m1 := (setA M a)) rfl ?_
      refine an_f (nI_ge (b := 6) hj (by omega)) ?_
      refine an_b 2 (pc2 := 856) (L2 := [some (vR 3 0 0), some (vI x), some (vI y), some (vR 8 0 0), some (vR 8 1 0), some (vR 8 2 0), some (vR 8 3 0), some (vR 8 4 0), some (vR 8 5 0), some (vR 8 6 0), some (vR 8 7 0), some (vR 8 8 0), some (vI ac), some (vI (nI h)), some (vI (nI r)), some (vI ow), some (vI (nI t)), some (vI bf), some (vI (nI i)), some (vI (nI j)), none, none]) (st2 := [vI (nI j), vR 8 4 0]) (m1 := (setA M a)) rfl ?_
      refine an_la 4 j (by decide) (by show _ < 6; omega) rfl rfl ?_
      refine an_b 2 (pc2 := 859) (L2 := [some (vR 3 0 0), some (vI x), some (vI y), some (vR 8 0 0), some (vR 8 1 0), some (vR 8 2 0), some (vR 8 3 0), some (vR 8 4 0), some (vR 8 5 0), some (vR 8 6 0), some (vR 8 7 0), some (vR 8 8 0), some (vI ac), some (vI (nI h)), some (vI (nI r)), some (vI ow), some (vI (nI t)), some (vI bf), some (vI (nI i)), some (vI (nI j)), none, none]) (st2 := [vI (3 : Int32), vR 8 0 0, vI (a 4 j)]) (m1 := (setA M a)) rfl ?_
      refine an_la 0 3 (by decide) (by show _ < 7; omega) rfl rfl ?_
      refine an_b 1 (pc2 := if (zz mm (101 + j)) ≤ (zz mm 0) then 946 else 863) (L2 := [some (vR 3 0 0), some (vI x), some (vI y), some (vR 8 0 0), some (vR 8 1 0), some (vR 8 2 0), some (vR 8 3 0), some (vR 8 4 0), some (vR 8 5 0), some (vR 8 6 0), some (vR 8 7 0), some (vR 8 8 0), some (vI ac), some (vI (nI h)), some (vI (nI r)), some (vI ow), some (vI (nI t)), some (vI bf), some (vI (nI i)), some (vI (nI j)), none, none]) (st2 := []) (m1 := (setA M a)) (by rw [← e4, ← e3]; rfl) ?_
      refine an_t c ?_
      exact k3
    · have H0 : LA a (upd (zz mm) 4 (zz mm 4 + nI 0)) s := la_cong H (fun i hi => by
        by_cases c4 : i = 4
        · rw [c4, upd_s]; exact Int32.add_zero _
        · exact upd_o _ _ _ c4)
      obtain ⟨a1, q, k1, k2, k3, k4⟩ := bn_row (M := M) (x := x) (y := y) (ac := ac) (h := h) (r := r) (ow := ow) (t := t) (bf := bf) (i := i) mm hj 5 0 a 0 mm rfl (Nat.le_refl 0) H0
      have e8 : lp (b_X5_burn_1 mm j) 8 0 ((0 : Int32), mm) = lp (b_X5_burn_1 mm j) 5 0 (nI 0, mm) := by
        rw [show (8 : Nat) = 5 + 3 from rfl, lp_add]
        refine lp_id _ 8 _ 3 (0 + 5) rfl (fun p g1 g2 => ?_)
        have hz := k4.1.2 p j g2 (by omega) (Or.inl (by omega))
        rw [upd_o _ _ _ (by omega)] at hz
        have gen : ∀ st : Int32 × PM, v_X5_lockOf st.2 p j ≤ 0 → b_X5_burn_1 mm j p st = st := fun st e0 => by
          unfold b_X5_burn_1
          rw [if_pos e0, if_pos e0]
        refine gen _ ?_
        have h0 : v_X5_lockOf (lp (b_X5_burn_1 mm j) 5 0 (nI 0, mm)).2 p j = 0 := hz
        exact (show v_X5_lockOf (lp (b_X5_burn_1 mm j) 5 0 (nI 0, mm)).2 p j ≤ 0 by rw [h0]; decide)
      have ev : v_X5_burn mm j = nI q := by
        unfold v_X5_burn
        rw [e8]; exact k2
      have ew : zz (w_X5_burn mm j) = upd (zz (lp (b_X5_burn_1 mm j) 5 0 (nI 0, mm)).2) 4 (zz (lp (b_X5_burn_1 mm j) 5 0 (nI 0, mm)).2 4 + nI q) := by
        unfold w_X5_burn
        rw [zz_wI, e8, k2]
        rfl
      have H1 : LA a1 (zz (w_X5_burn mm j)) s := by rw [ew]; exact k4
      have c' : ¬ mm.1 8 0 0 (101 + j) ≤ mm.1 8 0 0 0 := c
      by_cases q0 : q = 0
      · subst q0
        have e : (b_X5_tick_2 j (z, mm)).2 = w_X5_burn mm j := by
          unfold b_X5_tick_2 tickV tickW
          try dsimp only
          rw [if_neg c', ev, if_pos (show nI 0 ≤ 0 by decide), if_neg c']
        obtain ⟨a2, k5, k6⟩ := ih (j + 1) a1 (b_X5_tick_2 j (z, mm)).1 _ (by omega) H1
        rw [show b_X5_tick_2 j (z, mm) = ((b_X5_tick_2 j (z, mm)).1, w_X5_burn mm j) from Prod.ext rfl e]
        refine ⟨a2, fun v m2 hk => ?_, k6⟩
        have k7 := tl a1 v m2 (k5 v m2 hk)
        have k8 := k1 v m2 ?_
        · refine an_b 3 (pc2 := if (6 : Int32) ≤ (nI j) then 952 else 852) (L2 := [some (vR 3 0 0), some (vI x), some (vI y), some (vR 8 0 0), some (vR 8 1 0), some (vR 8 2 0), some (vR 8 3 0), some (vR 8 4 0), some (vR 8 5 0), some (vR 8 6 0), some (vR 8 7 0), some (vR 8 8 0), some (vI ac), some (vI (nI h)), some (vI (nI r)), some (vI ow), some (vI (nI t)), some (vI bf), some (vI (nI i)), some (vI (nI j)), none, none]) (st2 := []) (m1 := (setA M a)) rfl ?_
          refine an_f (nI_ge (b := 6) hj (by omega)) ?_
          refine an_b 2 (pc2 := 856) (L2 := [some (vR 3 0 0), some (vI x), some (vI y), some (vR 8 0 0), some (vR 8 1 0), some (vR 8 2 0), some (vR 8 3 0), some (vR 8 4 0), some (vR 8 5 0), some (vR 8 6 0), some (vR 8 7 0), some (vR 8 8 0), some (vI ac), some (vI (nI h)), some (vI (nI r)), some (vI ow), some (vI (nI t)), some (vI bf), some (vI (nI i)), some (vI (nI j)), none, none]) (st2 := [vI (nI j), vR 8 4 0]) (m1 := (setA M a)) rfl ?_
          refine an_la 4 j (by decide) (by show _ < 6; omega) rfl rfl ?_
          refine an_b 2 (pc2 := 859) (L2 := [some (vR 3 0 0), some (vI x), some (vI y), some (vR 8 0 0), some (vR 8 1 0), some (vR 8 2 0), some (vR 8 3 0), some (vR 8 4 0), some (vR 8 5 0), some (vR 8 6 0), some (vR 8 7 0), some (vR 8 8 0), some (vI ac), some (vI (nI h)), some (vI (nI r)), some (vI ow), some (vI (nI t)), some (vI bf), some (vI (nI i)), some (vI (nI j)), none, none]) (st2 := [vI (3 : Int32), vR 8 0 0, vI (a 4 j)]) (m1 := (setA M a)) rfl ?_
          refine an_la 0 3 (by decide) (by show _ < 7; omega) rfl rfl ?_
          refine an_b 1 (pc2 := if (zz mm (101 + j)) ≤ (zz mm 0) then 946 else 863) (L2 := [some (vR 3 0 0), some (vI x), some (vI y), some (vR 8 0 0), some (vR 8 1 0), some (vR 8 2 0), some (vR 8 3 0), some (vR 8 4 0), some (vR 8 5 0), some (vR 8 6 0), some (vR 8 7 0), some (vR 8 8 0), some (vI ac), some (vI (nI h)), some (vI (nI r)), some (vI ow), some (vI (nI t)), some (vI bf), some (vI (nI i)), some (vI (nI j)), none, none]) (st2 := []) (m1 := (setA M a)) (by rw [← e4, ← e3]; rfl) ?_
          refine an_f c ?_
          refine an_b 4 (pc2 := 869) (L2 := [some (vR 3 0 0), some (vI x), some (vI y), some (vR 8 0 0), some (vR 8 1 0), some (vR 8 2 0), some (vR 8 3 0), some (vR 8 4 0), some (vR 8 5 0), some (vR 8 6 0), some (vR 8 7 0), some (vR 8 8 0), some (vI ac), some (vI (nI h)), some (vI (nI r)), some (vI ow), some (vI (nI t)), some (vI bf), some (vI (nI i)), some (vI (nI j)), some (vI (0 : Int32)), some (vI (0 : Int32))]) (st2 := []) (m1 := (setA M a)) rfl ?_
          exact k8
        · refine an_b 2 (pc2 := if (flg 0) = 0 then 946 else 931) (L2 := [some (vR 3 0 0), some (vI x), some (vI y), some (vR 8 0 0), some (vR 8 1 0), some (vR 8 2 0), some (vR 8 3 0), some (vR 8 4 0), some (vR 8 5 0), some (vR 8 6 0), some (vR 8 7 0), some (vR 8 8 0), some (vI ac), some (vI (nI h)), some (vI (nI r)), some (vI ow), some (vI (nI t)), some (vI bf), some (vI (nI i)), some (vI (nI j)), some (vI (flg 0)), none]) (st2 := []) (m1 := (setA M a1)) rfl ?_
          refine an_t (by rfl) ?_
          exact an_weak (L := [some (vR 3 0 0), some (vI x), some (vI y), some (vR 8 0 0), some (vR 8 1 0), some (vR 8 2 0), some (vR 8 3 0), some (vR 8 4 0), some (vR 8 5 0), some (vR 8 6 0), some (vR 8 7 0), some (vR 8 8 0), some (vI ac), some (vI (nI h)), some (vI (nI r)), some (vI ow), some (vI (nI t)), some (vI bf), some (vI (nI i)), some (vI (nI j)), none, none]) ⟨rfl, rfl, rfl, rfl, rfl, rfl, rfl, rfl, rfl, rfl, rfl, rfl, rfl, rfl, rfl, rfl, rfl, rfl, rfl, rfl, trivial⟩ k7
      · have e : (b_X5_tick_2 j (z, mm)).2 = w_X5_settle (w_X5_burn mm j) j := by
          unfold b_X5_tick_2 tickV tickW
          try dsimp only
          rw [if_neg c', ev, if_neg (nI_nle (by omega) (by omega)), if_neg c']
        obtain ⟨a3, u1, u2⟩ := r_settle (M := M) H1 hj
        obtain ⟨a2, k5, k6⟩ := ih (j + 1) a3 (b_X5_tick_2 j (z, mm)).1 _ (by omega) u2
        rw [show b_X5_tick_2 j (z, mm) = ((b_X5_tick_2 j (z, mm)).1, w_X5_settle (w_X5_burn mm j) j) from Prod.ext rfl e]
        refine ⟨a2, fun v m2 hk => ?_, k6⟩
        have k7 := tl a3 v m2 (k5 v m2 hk)
        have k8 := k1 v m2 ?_
        · refine an_b 3 (pc2 := if (6 : Int32) ≤ (nI j) then 952 else 852) (L2 := [some (vR 3 0 0), some (vI x), some (vI y), some (vR 8 0 0), some (vR 8 1 0), some (vR 8 2 0), some (vR 8 3 0), some (vR 8 4 0), some (vR 8 5 0), some (vR 8 6 0), some (vR 8 7 0), some (vR 8 8 0), some (vI ac), some (vI (nI h)), some (vI (nI r)), some (vI ow), some (vI (nI t)), some (vI bf), some (vI (nI i)), some (vI (nI j)), none, none]) (st2 := []) (m1 := (setA M a)) rfl ?_
          refine an_f (nI_ge (b := 6) hj (by omega)) ?_
          refine an_b 2 (pc2 := 856) (L2 := [some (vR 3 0 0), some (vI x), some (vI y), some (vR 8 0 0), some (vR 8 1 0), some (vR 8 2 0), some (vR 8 3 0), some (vR 8 4 0), some (vR 8 5 0), some (vR 8 6 0), some (vR 8 7 0), some (vR 8 8 0), some (vI ac), some (vI (nI h)), some (vI (nI r)), some (vI ow), some (vI (nI t)), some (vI bf), some (vI (nI i)), some (vI (nI j)), none, none]) (st2 := [vI (nI j), vR 8 4 0]) (m1 := (setA M a)) rfl ?_
          refine an_la 4 j (by decide) (by show _ < 6; omega) rfl rfl ?_
          refine an_b 2 (pc2 := 859) (L2 := [some (vR 3 0 0), some (vI x), some (vI y), some (vR 8 0 0), some (vR 8 1 0), some (vR 8 2 0), some (vR 8 3 0), some (vR 8 4 0), some (vR 8 5 0), some (vR 8 6 0), some (vR 8 7 0), some (vR 8 8 0), some (vI ac), some (vI (nI h)), some (vI (nI r)), some (vI ow), some (vI (nI t)), some (vI bf), some (vI (nI i)), some (vI (nI j)), none, none]) (st2 := [vI (3 : Int32), vR 8 0 0, vI (a 4 j)]) (m1 := (setA M a)) rfl ?_
          refine an_la 0 3 (by decide) (by show _ < 7; omega) rfl rfl ?_
          refine an_b 1 (pc2 := if (zz mm (101 + j)) ≤ (zz mm 0) then 946 else 863) (L2 := [some (vR 3 0 0), some (vI x), some (vI y), some (vR 8 0 0), some (vR 8 1 0), some (vR 8 2 0), some (vR 8 3 0), some (vR 8 4 0), some (vR 8 5 0), some (vR 8 6 0), some (vR 8 7 0), some (vR 8 8 0), some (vI ac), some (vI (nI h)), some (vI (nI r)), some (vI ow), some (vI (nI t)), some (vI bf), some (vI (nI i)), some (vI (nI j)), none, none]) (st2 := []) (m1 := (setA M a)) (by rw [← e4, ← e3]; rfl) ?_
          refine an_f c ?_
          refine an_b 4 (pc2 := 869) (L2 := [some (vR 3 0 0), some (vI x), some (vI y), some (vR 8 0 0), some (vR 8 1 0), some (vR 8 2 0), some (vR 8 3 0), some (vR 8 4 0), some (vR 8 5 0), some (vR 8 6 0), some (vR 8 7 0), some (vR 8 8 0), some (vI ac), some (vI (nI h)), some (vI (nI r)), some (vI ow), some (vI (nI t)), some (vI bf), some (vI (nI i)), some (vI (nI j)), some (vI (0 : Int32)), some (vI (0 : Int32))]) (st2 := []) (m1 := (setA M a)) rfl ?_
          exact k8
        · refine an_b 2 (pc2 := if (flg q) = 0 then 946 else 931) (L2 := [some (vR 3 0 0), some (vI x), some (vI y), some (vR 8 0 0), some (vR 8 1 0), some (vR 8 2 0), some (vR 8 3 0), some (vR 8 4 0), some (vR 8 5 0), some (vR 8 6 0), some (vR 8 7 0), some (vR 8 8 0), some (vI ac), some (vI (nI h)), some (vI (nI r)), some (vI ow), some (vI (nI t)), some (vI bf), some (vI (nI i)), some (vI (nI j)), some (vI (flg q)), none]) (st2 := []) (m1 := (setA M a1)) rfl ?_
          refine an_f (by unfold flg; rw [if_neg q0]; decide) ?_
          refine an_b 5 (pc2 := 941) (L2 := [some (vR 3 0 0), some (vI x), some (vI y), some (vR 8 0 0), some (vR 8 1 0), some (vR 8 2 0), some (vR 8 3 0), some (vR 8 4 0), some (vR 8 5 0), some (vR 8 6 0), some (vR 8 7 0), some (vR 8 8 0), some (vI ac), some (vI (nI h)), some (vI (nI r)), some (vI ow), some (vI (nI t)), some (vI bf), some (vI (nI i)), some (vI (nI j)), some (vI (flg q)), none]) (st2 := [vI (nI j), vR 8 7 0, vR 8 3 0, vR 8 2 0, vR 8 1 0]) (m1 := (setA M a1)) rfl ?_
          refine an_call u1 rfl rfl rfl rfl ?_
          refine an_b 1 (pc2 := 946) (L2 := [some (vR 3 0 0), some (vI x), some (vI y), some (vR 8 0 0), some (vR 8 1 0), some (vR 8 2 0), some (vR 8 3 0), some (vR 8 4 0), some (vR 8 5 0), some (vR 8 6 0), some (vR 8 7 0), some (vR 8 8 0), some (vI ac), some (vI (nI h)), some (vI (nI r)), some (vI ow), some (vI (nI t)), some (vI bf), some (vI (nI i)), some (vI (nI j)), some (vI (flg q)), some (vI (v_X5_settle (w_X5_burn mm j) j))]) (st2 := []) (m1 := (setA M a3)) rfl ?_
          exact an_weak (L := [some (vR 3 0 0), some (vI x), some (vI y), some (vR 8 0 0), some (vR 8 1 0), some (vR 8 2 0), some (vR 8 3 0), some (vR 8 4 0), some (vR 8 5 0), some (vR 8 6 0), some (vR 8 7 0), some (vR 8 8 0), some (vI ac), some (vI (nI h)), some (vI (nI r)), some (vI ow), some (vI (nI t)), some (vI bf), some (vI (nI i)), some (vI (nI j)), none, none]) ⟨rfl, rfl, rfl, rfl, rfl, rfl, rfl, rfl, rfl, rfl, rfl, rfl, rfl, rfl, rfl, rfl, rfl, rfl, rfl, rfl, trivial⟩ k7
set_option maxRecDepth 100000 in
theorem rn_tick {a : Nat → Nat → Int32} {mm : PM} (H : LA a (zz mm) s) (hM : LM a) : ∃ a2, (∀ (v : OC) (m2 : PM), An ML_act 952 [some (vR 3 0 0), some (vI x), some (vI y), some (vR 8 0 0), some (vR 8 1 0), some (vR 8 2 0), some (vR 8 3 0), some (vR 8 4 0), some (vR 8 5 0), some (vR 8 6 0), some (vR 8 7 0), some (vR 8 8 0), some (vI ac), some (vI (nI h)), some (vI (nI r)), some (vI ow), some (vI (nI t)), some (vI bf), some (vI (nI i)), none, none, none] [] (setA M a2) v m2 → An ML_act 713 [some (vR 3 0 0), some (vI x), some (vI y), some (vR 8 0 0), some (vR 8 1 0), some (vR 8 2 0), some (vR 8 3 0), some (vR 8 4 0), some (vR 8 5 0), some (vR 8 6 0), some (vR 8 7 0), some (vR 8 8 0), some (vI ac), some (vI (nI h)), some (vI (nI r)), some (vI ow), some (vI (nI t)), some (vI bf), some (vI (nI i)), none, none, none] [] (setA M a) v m2) ∧ LA a2 (zz (w_X5_tick mm)) s := by
  have H0 : LA (up2 a 0 0 (a 0 0 + 1)) (zz (wI mm 8 0 0 3 (mm.1 8 0 0 3 + 1))) s := by
    rw [zz_wI, show mm.1 8 0 0 3 = a 0 0 from H.2.2.2.2.1.symm]
    exact la_3 H _
  obtain ⟨a1, k1, k2⟩ := ht_rows (M := M) (x := x) (y := y) (ac := ac) (h := h) (r := r) (ow := ow) (t := t) (bf := bf) (i := i) 6 0 _ _ rfl H0 (fun p j g1 g2 => by rw [up2_o _ _ _ _ (by decide)]; exact hM p j g1 g2)
  have H1 : LA a1 (zz (tick_1 mm)) s := by
    unfold tick_1
    rw [show (12 : Nat) = 6 + 6 from rfl, lp_add]
    exact la_tick1h k2
  obtain ⟨a2, k3, k4⟩ := bn_rows (M := M) (x := x) (y := y) (ac := ac) (h := h) (r := r) (ow := ow) (t := t) (bf := bf) (i := i) 6 0 a1 0 _ rfl H1
  refine ⟨a2, fun v m2 hk => ?_, ?_⟩
  · have k5 := k3 v m2 hk
    have k6 := k1 v m2 ?_
    · refine an_b 3 (pc2 := 716) (L2 := [some (vR 3 0 0), some (vI x), some (vI y), some (vR 8 0 0), some (vR 8 1 0), some (vR 8 2 0), some (vR 8 3 0), some (vR 8 4 0), some (vR 8 5 0), some (vR 8 6 0), some (vR 8 7 0), some (vR 8 8 0), some (vI ac), some (vI (nI h)), some (vI (nI r)), some (vI ow), some (vI (nI t)), some (vI bf), some (vI (nI i)), none, none, none]) (st2 := [vI (0 : Int32), vR 8 0 0, vI (0 : Int32), vR 8 0 0]) (m1 := (setA M a)) rfl ?_
      refine an_la 0 0 (by decide) (by show _ < 7; omega) rfl rfl ?_
      refine an_b 2 (pc2 := 719) (L2 := [some (vR 3 0 0), some (vI x), some (vI y), some (vR 8 0 0), some (vR 8 1 0), some (vR 8 2 0), some (vR 8 3 0), some (vR 8 4 0), some (vR 8 5 0), some (vR 8 6 0), some (vR 8 7 0), some (vR 8 8 0), some (vI ac), some (vI (nI h)), some (vI (nI r)), some (vI ow), some (vI (nI t)), some (vI bf), some (vI (nI i)), none, none, none]) (st2 := [vI ((a 0 0) + (1 : Int32)), vI (0 : Int32), vR 8 0 0]) (m1 := (setA M a)) rfl ?_
      refine an_sa 0 0 (by decide) (by show _ < 7; omega) rfl rfl ?_
      refine an_b 2 (pc2 := 723) (L2 := [some (vR 3 0 0), some (vI x), some (vI y), some (vR 8 0 0), some (vR 8 1 0), some (vR 8 2 0), some (vR 8 3 0), some (vR 8 4 0), some (vR 8 5 0), some (vR 8 6 0), some (vR 8 7 0), some (vR 8 8 0), some (vI ac), some (vI (nI h)), some (vI (nI r)), some (vI ow), some (vI (nI t)), some (vI bf), some (vI (nI i)), some (vI (0 : Int32)), none, none]) (st2 := []) (m1 := (setA M (up2 a 0 0 ((a 0 0) + (1 : Int32))))) rfl ?_
      exact k6
    · refine an_b 2 (pc2 := 845) (L2 := [some (vR 3 0 0), some (vI x), some (vI y), some (vR 8 0 0), some (vR 8 1 0), some (vR 8 2 0), some (vR 8 3 0), some (vR 8 4 0), some (vR 8 5 0), some (vR 8 6 0), some (vR 8 7 0), some (vR 8 8 0), some (vI ac), some (vI (nI h)), some (vI (nI r)), some (vI ow), some (vI (nI t)), some (vI bf), some (vI (nI i)), some (vI (0 : Int32)), none, none]) (st2 := []) (m1 := (setA M a1)) rfl ?_
      exact k5
  · show LA a2 (zz (lp b_X5_tick_2 12 0 (0, tick_1 mm)).2) s
    rw [show (12 : Nat) = 6 + 6 from rfl, lp_add]
    exact la_tick2h k4
set_option maxRecDepth 100000 in
theorem rn_ticks : ∀ d j (a : Nat → Nat → Int32) (mm : PM), j + d = t → t ≤ 20 → LA a (zz mm) s → JZ (zz mm) → ∃ a2, (∀ (v : OC) (m2 : PM), An ML_act 958 [some (vR 3 0 0), some (vI x), some (vI y), some (vR 8 0 0), some (vR 8 1 0), some (vR 8 2 0), some (vR 8 3 0), some (vR 8 4 0), some (vR 8 5 0), some (vR 8 6 0), some (vR 8 7 0), some (vR 8 8 0), some (vI ac), some (vI (nI h)), some (vI (nI r)), some (vI ow), some (vI (nI t)), some (vI bf), none, none, none, none] [] (setA M a2) v m2 → An ML_act 706 [some (vR 3 0 0), some (vI x), some (vI y), some (vR 8 0 0), some (vR 8 1 0), some (vR 8 2 0), some (vR 8 3 0), some (vR 8 4 0), some (vR 8 5 0), some (vR 8 6 0), some (vR 8 7 0), some (vR 8 8 0), some (vI ac), some (vI (nI h)), some (vI (nI r)), some (vI ow), some (vI (nI t)), some (vI bf), some (vI (nI j)), none, none, none] [] (setA M a) v m2) ∧ LA a2 (zz (lp b_X5_pass_1 d j mm)) s := by
  intro d
  induction d with
  | zero =>
    intro j a mm hd ht H _
    obtain rfl : j = t := by omega
    refine ⟨a, fun v m2 hk => ?_, by rw [lp_0]; exact H⟩
    refine an_b 3 (pc2 := if (nI j) ≤ (nI j) then 958 else 713) (L2 := [some (vR 3 0 0), some (vI x), some (vI y), some (vR 8 0 0), some (vR 8 1 0), some (vR 8 2 0), some (vR 8 3 0), some (vR 8 4 0), some (vR 8 5 0), some (vR 8 6 0), some (vR 8 7 0), some (vR 8 8 0), some (vI ac), some (vI (nI h)), some (vI (nI r)), some (vI ow), some (vI (nI j)), some (vI bf), some (vI (nI j)), none, none, none]) (st2 := []) (m1 := (setA M a)) rfl ?_
    refine an_t (nI_le (Nat.le_refl j) (by omega)) ?_
    exact an_weak (L := [some (vR 3 0 0), some (vI x), some (vI y), some (vR 8 0 0), some (vR 8 1 0), some (vR 8 2 0), some (vR 8 3 0), some (vR 8 4 0), some (vR 8 5 0), some (vR 8 6 0), some (vR 8 7 0), some (vR 8 8 0), some (vI ac), some (vI (nI h)), some (vI (nI r)), some (vI ow), some (vI (nI j)), some (vI bf), none, none, none, none]) ⟨rfl, rfl, rfl, rfl, rfl, rfl, rfl, rfl, rfl, rfl, rfl, rfl, rfl, rfl, rfl, rfl, rfl, rfl, trivial⟩ hk
  | succ d ih =>
    intro j a mm hd ht H J
    obtain ⟨c, S, B⟩ := J
    obtain ⟨a1, k1, k2⟩ := rn_tick (M := M) (x := x) (y := y) (ac := ac) (h := h) (r := r) (ow := ow) (t := t) (bf := bf) (i := j) H (lm_sa H.1 S)
    obtain ⟨c2, _, S2, B2, _⟩ := tick_R mm mm 0 S B
    obtain ⟨a2, k3, k4⟩ := ih (j + 1) a1 (w_X5_tick mm) (by omega) ht k2 ⟨c2, S2, B2⟩
    rw [lp_s]
    refine ⟨a2, fun v m2 hk => ?_, k4⟩
    have k5 := k3 v m2 hk
    rw [← nI_1] at k5
    have k6 := k1 v m2 ?_
    · refine an_b 3 (pc2 := if (nI t) ≤ (nI j) then 958 else 713) (L2 := [some (vR 3 0 0), some (vI x), some (vI y), some (vR 8 0 0), some (vR 8 1 0), some (vR 8 2 0), some (vR 8 3 0), some (vR 8 4 0), some (vR 8 5 0), some (vR 8 6 0), some (vR 8 7 0), some (vR 8 8 0), some (vI ac), some (vI (nI h)), some (vI (nI r)), some (vI ow), some (vI (nI t)), some (vI bf), some (vI (nI j)), none, none, none]) (st2 := []) (m1 := (setA M a)) rfl ?_
      refine an_f (nI_ge (by omega) (by omega)) ?_
      exact k6
    · refine an_b 2 (pc2 := 706) (L2 := [some (vR 3 0 0), some (vI x), some (vI y), some (vR 8 0 0), some (vR 8 1 0), some (vR 8 2 0), some (vR 8 3 0), some (vR 8 4 0), some (vR 8 5 0), some (vR 8 6 0), some (vR 8 7 0), some (vR 8 8 0), some (vI ac), some (vI (nI h)), some (vI (nI r)), some (vI ow), some (vI (nI t)), some (vI bf), some (vI ((nI j) + (1 : Int32))), none, none, none]) (st2 := []) (m1 := (setA M a1)) rfl ?_
      exact k5
end
section
variable {M m : PM} {a : Nat → Nat → Int32} {s len K h r : Nat} {x y ac : Int32}
set_option maxRecDepth 100000 in
theorem act_set (W : WR (setA M a) m s len K) (H : LA a (zz m) (s, 0)) (hac : ac = 11) : AOK len 595 [some (vR 3 0 0), some (vI x), some (vI y), some (vR 8 0 0), some (vR 8 1 0), some (vR 8 2 0), some (vR 8 3 0), some (vR 8 4 0), some (vR 8 5 0), some (vR 8 6 0), some (vR 8 7 0), some (vR 8 8 0), some (vI ac), some (vI (nI h)), some (vI (nI r)), some (vI (clT (setA M a) 0 1 h)), none, none, none, none, none, none] M a := by
  have s6 : s ≤ 6 := W.2.1
  have H2 : a 0 2 = nI s := H.2.2.2.2.2.2.1
  obtain ⟨k, hk, k1⟩ := r_at (setA M (up2 a 0 2 (nI (svN s)))) y (n := 3) (by omega) (by omega)
  have H1 : LA (up2 a 0 2 (nI (svN s))) (zz (svM m s)) (svN s, 0) := by rw [zz_svM]; exact la_s H (svN s)
  have ew : (up2 a 0 2 (nI (svN s))) 0 (3 + k) = zz m (0 + k) := by
    obtain ⟨_, _, _, _, t5, t6, t7, _⟩ := H1.2.2.2
    rw [zz_svM] at t5 t6 t7
    rcases (show k = 0 ∨ k = 1 ∨ k = 2 by omega) with rfl | rfl | rfl
    · exact t5
    · exact t6
    · exact t7
  -- the value
  have V : ∃ z, v_X5_isValue m (nI k) z = 1 ∧ ∀ (v : OC) (m2 : PM), An ML_act 664 [some (vR 3 0 0), some (vI x), some (vI y), some (vR 8 0 0), some (vR 8 1 0), some (vR 8 2 0), some (vR 8 3 0), some (vR 8 4 0), some (vR 8 5 0), some (vR 8 6 0), some (vR 8 7 0), some (vR 8 8 0), some (vI ac), some (vI (nI h)), some (vI (nI r)), some (vI (clT (setA M a) 0 1 h)), some (vI (nI k)), some (vI (zz m (0 + k))), none, none, none, none] [vI z, vI (nI (3 + k)), vR 8 0 0] (setA M (up2 a 0 2 (nI (svN s)))) v m2 → An ML_act 637 [some (vR 3 0 0), some (vI x), some (vI y), some (vR 8 0 0), some (vR 8 1 0), some (vR 8 2 0), some (vR 8 3 0), some (vR 8 4 0), some (vR 8 5 0), some (vR 8 6 0), some (vR 8 7 0), some (vR 8 8 0), some (vI ac), some (vI (nI h)), some (vI (nI r)), some (vI (clT (setA M a) 0 1 h)), some (vI (nI k)), some (vI (zz m (0 + k))), none, none, none, none] [vI (nI (3 + k)), vR 8 0 0] (setA M (up2 a 0 2 (nI (svN s)))) v m2 := by
    by_cases k0 : k = 0
    · obtain ⟨q, hq, k2⟩ := r_at (setA M (up2 a 0 2 (nI (svN s)))) (y >>> ((2 : Int32) &&& (31 : Int32))) (n := 60) (by omega) (by omega)
      refine ⟨nI (10 + q), ?_, fun v m2 kk => ?_⟩
      · subst k0
        unfold v_X5_isValue v_X5_within
        rw [if_neg (fun u => u rfl), if_neg (show ¬ nI (10 + q) < (10 : Int32) from nI_nlt (b := 10) (by omega) (by omega)), if_neg (show ¬ (900 : Int32) < nI (10 + q) from nI_nlt (a := 900) (by omega) (by omega))]
      · refine an_b 2 (pc2 := if ¬ (nI k) = 0 then 656 else 642) (L2 := [some (vR 3 0 0), some (vI x), some (vI y), some (vR 8 0 0), some (vR 8 1 0), some (vR 8 2 0), some (vR 8 3 0), some (vR 8 4 0), some (vR 8 5 0), some (vR 8 6 0), some (vR 8 7 0), some (vR 8 8 0), some (vI ac), some (vI (nI h)), some (vI (nI r)), some (vI (clT (setA M a) 0 1 h)), some (vI (nI k)), some (vI (zz m (0 + k))), none, none, none, none]) (st2 := [vI (nI (3 + k)), vR 8 0 0]) (m1 := (setA M (up2 a 0 2 (nI (svN s))))) rfl ?_
        refine an_f (by rw [k0]; exact fun u => u rfl) ?_
        refine an_b 5 (pc2 := 649) (L2 := [some (vR 3 0 0), some (vI x), some (vI y), some (vR 8 0 0), some (vR 8 1 0), some (vR 8 2 0), some (vR 8 3 0), some (vR 8 4 0), some (vR 8 5 0), some (vR 8 6 0), some (vR 8 7 0), some (vR 8 8 0), some (vI ac), some (vI (nI h)), some (vI (nI r)), some (vI (clT (setA M a) 0 1 h)), some (vI (nI k)), some (vI (zz m (0 + k))), none, none, none, none]) (st2 := [vI (60 : Int32), vI (y >>> ((2 : Int32) &&& (31 : Int32))), vI (10 : Int32), vI (nI (3 + k)), vR 8 0 0]) (m1 := (setA M (up2 a 0 2 (nI (svN s))))) rfl ?_
        refine an_call k2 rfl rfl rfl rfl ?_
        refine an_b 1 (pc2 := 653) (L2 := [some (vR 3 0 0), some (vI x), some (vI y), some (vR 8 0 0), some (vR 8 1 0), some (vR 8 2 0), some (vR 8 3 0), some (vR 8 4 0), some (vR 8 5 0), some (vR 8 6 0), some (vR 8 7 0), some (vR 8 8 0), some (vI ac), some (vI (nI h)), some (vI (nI r)), some (vI (clT (setA M a) 0 1 h)), some (vI (nI k)), some (vI (zz m (0 + k))), none, none, none, none]) (st2 := [vI ((10 : Int32) + (nI q)), vI (nI (3 + k)), vR 8 0 0]) (m1 := (setA M (up2 a 0 2 (nI (svN s))))) rfl ?_
        rw [show (10 : Int32) + nI q = nI (10 + q) from nI_add 10 q]
        refine an_b 1 (pc2 := 664) (L2 := [some (vR 3 0 0), some (vI x), some (vI y), some (vR 8 0 0), some (vR 8 1 0), some (vR 8 2 0), some (vR 8 3 0), some (vR 8 4 0), some (vR 8 5 0), some (vR 8 6 0), some (vR 8 7 0), some (vR 8 8 0), some (vI ac), some (vI (nI h)), some (vI (nI r)), some (vI (clT (setA M a) 0 1 h)), some (vI (nI k)), some (vI (zz m (0 + k))), none, none, none, none]) (st2 := [vI (nI (10 + q)), vI (nI (3 + k)), vR 8 0 0]) (m1 := (setA M (up2 a 0 2 (nI (svN s))))) rfl ?_
        exact kk
    · obtain ⟨q, hq, k2⟩ := r_at (setA M (up2 a 0 2 (nI (svN s)))) (y >>> ((2 : Int32) &&& (31 : Int32))) (n := 21) (by omega) (by omega)
      refine ⟨nI q, ?_, fun v m2 kk => ?_⟩
      · unfold v_X5_isValue v_X5_within
        rw [if_pos (show ¬ nI k = 0 from nI_ne0 (by omega) (by omega)), if_neg (show ¬ nI q < (0 : Int32) from nI_pos (by omega)), if_neg (show ¬ (50 : Int32) < nI q from nI_nlt (a := 50) (by omega) (by omega)), if_neg (show ¬ (20 : Int32) < nI q from nI_nlt (a := 20) (by omega) (by omega))]
        split <;> first | rfl | exact if_neg (nI_pos (by omega))
      · refine an_b 2 (pc2 := if ¬ (nI k) = 0 then 656 else 642) (L2 := [some (vR 3 0 0), some (vI x), some (vI y), some (vR 8 0 0), some (vR 8 1 0), some (vR 8 2 0), some (vR 8 3 0), some (vR 8 4 0), some (vR 8 5 0), some (vR 8 6 0), some (vR 8 7 0), some (vR 8 8 0), some (vI ac), some (vI (nI h)), some (vI (nI r)), some (vI (clT (setA M a) 0 1 h)), some (vI (nI k)), some (vI (zz m (0 + k))), none, none, none, none]) (st2 := [vI (nI (3 + k)), vR 8 0 0]) (m1 := (setA M (up2 a 0 2 (nI (svN s))))) rfl ?_
        refine an_t (show ¬ nI k = 0 from nI_ne0 (by omega) (by omega)) ?_
        refine an_b 4 (pc2 := 661) (L2 := [some (vR 3 0 0), some (vI x), some (vI y), some (vR 8 0 0), some (vR 8 1 0), some (vR 8 2 0), some (vR 8 3 0), some (vR 8 4 0), some (vR 8 5 0), some (vR 8 6 0), some (vR 8 7 0), some (vR 8 8 0), some (vI ac), some (vI (nI h)), some (vI (nI r)), some (vI (clT (setA M a) 0 1 h)), some (vI (nI k)), some (vI (zz m (0 + k))), none, none, none, none]) (st2 := [vI (21 : Int32), vI (y >>> ((2 : Int32) &&& (31 : Int32))), vI (nI (3 + k)), vR 8 0 0]) (m1 := (setA M (up2 a 0 2 (nI (svN s))))) rfl ?_
        refine an_call k2 rfl rfl rfl rfl ?_
        exact kk
  obtain ⟨z, vz, kz⟩ := V
  obtain ⟨M1, k2, W2⟩ := rc_set (wr_A W (up2 (up2 a 0 2 (nI (svN s))) 0 (3 + k) z)) hk vz
  have H3 : LA (up2 (up2 a 0 2 (nI (svN s))) 0 (3 + k) z) (zz (wI (svM m s) 8 0 0 (0 + k) z)) (svN s, 0) := by
    rw [zz_wI]; exact la_set0 H1 hk z
  refine ⟨M1, _, _, _, _, ?_, W2, H3⟩
  have nx : An ML_act 610 [some (vR 3 0 0), some (vI x), some (vI y), some (vR 8 0 0), some (vR 8 1 0), some (vR 8 2 0), some (vR 8 3 0), some (vR 8 4 0), some (vR 8 5 0), some (vR 8 6 0), some (vR 8 7 0), some (vR 8 8 0), some (vI ac), some (vI (nI h)), some (vI (nI r)), some (vI (clT (setA M a) 0 1 h)), none, none, none, none, none, none] [] (setA M (up2 a 0 2 (nI (svN s)))) (.inl (some (vI 1))) (setA M1 (up2 (up2 a 0 2 (nI (svN s))) 0 (3 + k) z)) := by
    refine an_b 3 (pc2 := if ¬ ac = (11 : Int32) then 688 else 617) (L2 := [some (vR 3 0 0), some (vI x), some (vI y), some (vR 8 0 0), some (vR 8 1 0), some (vR 8 2 0), some (vR 8 3 0), some (vR 8 4 0), some (vR 8 5 0), some (vR 8 6 0), some (vR 8 7 0), some (vR 8 8 0), some (vI ac), some (vI (nI h)), some (vI (nI r)), some (vI (clT (setA M a) 0 1 h)), none, none, none, none, none, none]) (st2 := []) (m1 := (setA M (up2 a 0 2 (nI (svN s))))) rfl ?_
    refine an_f (fun u => u hac) ?_
    refine an_b 2 (pc2 := 619) (L2 := [some (vR 3 0 0), some (vI x), some (vI y), some (vR 8 0 0), some (vR 8 1 0), some (vR 8 2 0), some (vR 8 3 0), some (vR 8 4 0), some (vR 8 5 0), some (vR 8 6 0), some (vR 8 7 0), some (vR 8 8 0), some (vI ac), some (vI (nI h)), some (vI (nI r)), some (vI (clT (setA M a) 0 1 h)), none, none, none, none, none, none]) (st2 := [vI (3 : Int32), vI y]) (m1 := (setA M (up2 a 0 2 (nI (svN s))))) rfl ?_
    refine an_call k1 rfl rfl rfl rfl ?_
    refine an_b 5 (pc2 := 629) (L2 := [some (vR 3 0 0), some (vI x), some (vI y), some (vR 8 0 0), some (vR 8 1 0), some (vR 8 2 0), some (vR 8 3 0), some (vR 8 4 0), some (vR 8 5 0), some (vR 8 6 0), some (vR 8 7 0), some (vR 8 8 0), some (vI ac), some (vI (nI h)), some (vI (nI r)), some (vI (clT (setA M a) 0 1 h)), some (vI (nI k)), none, none, none, none, none]) (st2 := [vI ((3 : Int32) + (nI k)), vR 8 0 0]) (m1 := (setA M (up2 a 0 2 (nI (svN s))))) rfl ?_
    refine an_la 0 (3 + k) (by decide) (by show _ < 7; omega) (by simp only [ix_lit, pk_mul, nI_add]) rfl ?_
    rw [ew]
    refine an_b 5 (pc2 := 637) (L2 := [some (vR 3 0 0), some (vI x), some (vI y), some (vR 8 0 0), some (vR 8 1 0), some (vR 8 2 0), some (vR 8 3 0), some (vR 8 4 0), some (vR 8 5 0), some (vR 8 6 0), some (vR 8 7 0), some (vR 8 8 0), some (vI ac), some (vI (nI h)), some (vI (nI r)), some (vI (clT (setA M a) 0 1 h)), some (vI (nI k)), some (vI (zz m (0 + k))), none, none, none, none]) (st2 := [vI ((3 : Int32) + (nI k)), vR 8 0 0]) (m1 := (setA M (up2 a 0 2 (nI (svN s))))) rfl ?_
    rw [show (3 : Int32) + nI k = nI (3 + k) from nI_add 3 k]
    refine kz _ _ ?_
    refine an_sa 0 (3 + k) (by decide) (by show _ < 7; omega) (by simp only [ix_lit, pk_mul, nI_add]) rfl ?_
    refine an_b 6 (pc2 := 673) (L2 := [some (vR 3 0 0), some (vI x), some (vI y), some (vR 8 0 0), some (vR 8 1 0), some (vR 8 2 0), some (vR 8 3 0), some (vR 8 4 0), some (vR 8 5 0), some (vR 8 6 0), some (vR 8 7 0), some (vR 8 8 0), some (vI ac), some (vI (nI h)), some (vI (nI r)), some (vI (clT (setA M a) 0 1 h)), some (vI (nI k)), some (vI (zz m (0 + k))), none, none, none, none]) (st2 := [vI ((3 : Int32) + (nI k)), vR 8 0 0, vI (nI k), vR 3 0 0]) (m1 := (setA M (up2 (up2 a 0 2 (nI (svN s))) 0 (3 + k) z))) rfl ?_
    refine an_la 0 (3 + k) (by decide) (by show _ < 7; omega) (by simp only [ix_lit, pk_mul, nI_add]) rfl ?_
    rw [up2_s]
    refine an_call k2 rfl rfl rfl rfl ?_
    refine an_b 2 (pc2 := if ¬ (zz m (0 + k)) = (zz m (0 + k)) then 686 else 682) (L2 := [some (vR 3 0 0), some (vI x), some (vI y), some (vR 8 0 0), some (vR 8 1 0), some (vR 8 2 0), some (vR 8 3 0), some (vR 8 4 0), some (vR 8 5 0), some (vR 8 6 0), some (vR 8 7 0), some (vR 8 8 0), some (vI ac), some (vI (nI h)), some (vI (nI r)), some (vI (clT (setA M a) 0 1 h)), some (vI (nI k)), some (vI (zz m (0 + k))), none, none, none, none]) (st2 := []) (m1 := (setA M1 (up2 (up2 a 0 2 (nI (svN s))) 0 (3 + k) z))) rfl ?_
    refine an_f (fun q => q rfl) ?_
    refine an_b 2 (pc2 := 687) (L2 := [some (vR 3 0 0), some (vI x), some (vI y), some (vR 8 0 0), some (vR 8 1 0), some (vR 8 2 0), some (vR 8 3 0), some (vR 8 4 0), some (vR 8 5 0), some (vR 8 6 0), some (vR 8 7 0), some (vR 8 8 0), some (vI ac), some (vI (nI h)), some (vI (nI r)), some (vI (clT (setA M a) 0 1 h)), some (vI (nI k)), some (vI (zz m (0 + k))), none, none, none, none]) (st2 := [vI (1 : Int32)]) (m1 := (setA M1 (up2 (up2 a 0 2 (nI (svN s))) 0 (3 + k) z))) rfl ?_
    exact an_ret rfl rfl rfl rfl rfl
  refine an_b 2 (pc2 := 597) (L2 := [some (vR 3 0 0), some (vI x), some (vI y), some (vR 8 0 0), some (vR 8 1 0), some (vR 8 2 0), some (vR 8 3 0), some (vR 8 4 0), some (vR 8 5 0), some (vR 8 6 0), some (vR 8 7 0), some (vR 8 8 0), some (vI ac), some (vI (nI h)), some (vI (nI r)), some (vI (clT (setA M a) 0 1 h)), none, none, none, none, none, none]) (st2 := [vI (2 : Int32), vR 8 0 0]) (m1 := (setA M a)) rfl ?_
  refine an_la 0 2 (by decide) (by show _ < 7; omega) rfl rfl ?_
  refine an_b 2 (pc2 := if (6 : Int32) ≤ (nI s) then 610 else 603) (L2 := [some (vR 3 0 0), some (vI x), some (vI y), some (vR 8 0 0), some (vR 8 1 0), some (vR 8 2 0), some (vR 8 3 0), some (vR 8 4 0), some (vR 8 5 0), some (vR 8 6 0), some (vR 8 7 0), some (vR 8 8 0), some (vI ac), some (vI (nI h)), some (vI (nI r)), some (vI (clT (setA M a) 0 1 h)), none, none, none, none, none, none]) (st2 := []) (m1 := (setA M a)) (by rw [H2]; rfl) ?_
  by_cases c6 : s < 6
  · refine an_f (nI_ge (b := 6) c6 (by omega)) ?_
    refine an_b 3 (pc2 := 606) (L2 := [some (vR 3 0 0), some (vI x), some (vI y), some (vR 8 0 0), some (vR 8 1 0), some (vR 8 2 0), some (vR 8 3 0), some (vR 8 4 0), some (vR 8 5 0), some (vR 8 6 0), some (vR 8 7 0), some (vR 8 8 0), some (vI ac), some (vI (nI h)), some (vI (nI r)), some (vI (clT (setA M a) 0 1 h)), none, none, none, none, none, none]) (st2 := [vI (2 : Int32), vR 8 0 0, vI (2 : Int32), vR 8 0 0]) (m1 := (setA M a)) rfl ?_
    refine an_la 0 2 (by decide) (by show _ < 7; omega) rfl rfl ?_
    refine an_b 2 (pc2 := 609) (L2 := [some (vR 3 0 0), some (vI x), some (vI y), some (vR 8 0 0), some (vR 8 1 0), some (vR 8 2 0), some (vR 8 3 0), some (vR 8 4 0), some (vR 8 5 0), some (vR 8 6 0), some (vR 8 7 0), some (vR 8 8 0), some (vI ac), some (vI (nI h)), some (vI (nI r)), some (vI (clT (setA M a) 0 1 h)), none, none, none, none, none, none]) (st2 := [vI ((a 0 2) + (1 : Int32)), vI (2 : Int32), vR 8 0 0]) (m1 := (setA M a)) rfl ?_
    rw [H2, nI_1, show s + 1 = svN s by unfold svN; rw [if_neg (by omega)]]
    refine an_sa 0 2 (by decide) (by show _ < 7; omega) rfl rfl ?_
    exact nx
  · have e6 : svN s = s := by unfold svN; rw [if_pos (by omega)]; omega
    have nx := an_me (show up2 a 0 2 (nI (svN s)) = a by rw [e6]; exact up2_e _ H2) nx
    refine an_t (nI_le (a := 6) (by omega) (by omega)) ?_
    exact nx
set_option maxRecDepth 100000 in
theorem act_pass (W : WR (setA M a) m s len K) (H : LA a (zz m) (s, 0)) (hac : ¬ ac = 11) : AOK len 595 [some (vR 3 0 0), some (vI x), some (vI y), some (vR 8 0 0), some (vR 8 1 0), some (vR 8 2 0), some (vR 8 3 0), some (vR 8 4 0), some (vR 8 5 0), some (vR 8 6 0), some (vR 8 7 0), some (vR 8 8 0), some (vI ac), some (vI (nI h)), some (vI (nI r)), some (vI (clT (setA M a) 0 1 h)), none, none, none, none, none, none] M a := by
  have s6 : s ≤ 6 := W.2.1
  have H2 : a 0 2 = nI s := H.2.2.2.2.2.2.1
  obtain ⟨q, hq, k1⟩ := r_at (setA M (up2 a 0 2 (nI (svN s)))) y (n := 20) (by omega) (by omega)
  have H1 : LA (up2 a 0 2 (nI (svN s))) (zz (svM m s)) (svN s, 0) := by rw [zz_svM]; exact la_s H (svN s)
  have e1 : (up2 a 0 2 (nI (svN s))) 0 1 = zz m 4 := by
    have k := H1.2.2.2.2.2.1
    rw [zz_svM] at k
    exact k
  obtain ⟨a2, k3, H3⟩ := rn_ticks (M := M) (x := x) (y := y) (ac := ac) (h := h) (r := r) (ow := clT (setA M a) 0 1 h) (t := 1 + q) (bf := zz m 4) (1 + q) 0 _ (svM m s) (by omega) (by omega) H1 ⟨_, sa_sv W, W.1.2.1⟩
  obtain ⟨M1, k2, W2⟩ := rc_pass (wr_A W a2) (k := 1 + q) (by omega) (by omega)
  have e2 : a2 0 1 = zz (passW m (1 + q) s) 4 := H3.2.2.2.2.2.1
  refine ⟨M1, a2, _, _, _, ?_, W2, H3⟩
  have nx : An ML_act 610 [some (vR 3 0 0), some (vI x), some (vI y), some (vR 8 0 0), some (vR 8 1 0), some (vR 8 2 0), some (vR 8 3 0), some (vR 8 4 0), some (vR 8 5 0), some (vR 8 6 0), some (vR 8 7 0), some (vR 8 8 0), some (vI ac), some (vI (nI h)), some (vI (nI r)), some (vI (clT (setA M a) 0 1 h)), none, none, none, none, none, none] [] (setA M (up2 a 0 2 (nI (svN s)))) (.inl (some (vI 1))) (setA M1 a2) := by
    refine an_b 3 (pc2 := if ¬ ac = (11 : Int32) then 688 else 617) (L2 := [some (vR 3 0 0), some (vI x), some (vI y), some (vR 8 0 0), some (vR 8 1 0), some (vR 8 2 0), some (vR 8 3 0), some (vR 8 4 0), some (vR 8 5 0), some (vR 8 6 0), some (vR 8 7 0), some (vR 8 8 0), some (vI ac), some (vI (nI h)), some (vI (nI r)), some (vI (clT (setA M a) 0 1 h)), none, none, none, none, none, none]) (st2 := []) (m1 := (setA M (up2 a 0 2 (nI (svN s))))) rfl ?_
    refine an_t hac ?_
    refine an_b 3 (pc2 := 692) (L2 := [some (vR 3 0 0), some (vI x), some (vI y), some (vR 8 0 0), some (vR 8 1 0), some (vR 8 2 0), some (vR 8 3 0), some (vR 8 4 0), some (vR 8 5 0), some (vR 8 6 0), some (vR 8 7 0), some (vR 8 8 0), some (vI ac), some (vI (nI h)), some (vI (nI r)), some (vI (clT (setA M a) 0 1 h)), none, none, none, none, none, none]) (st2 := [vI (20 : Int32), vI y, vI (1 : Int32)]) (m1 := (setA M (up2 a 0 2 (nI (svN s))))) rfl ?_
    refine an_call k1 rfl rfl rfl rfl ?_
    refine an_b 1 (pc2 := 696) (L2 := [some (vR 3 0 0), some (vI x), some (vI y), some (vR 8 0 0), some (vR 8 1 0), some (vR 8 2 0), some (vR 8 3 0), some (vR 8 4 0), some (vR 8 5 0), some (vR 8 6 0), some (vR 8 7 0), some (vR 8 8 0), some (vI ac), some (vI (nI h)), some (vI (nI r)), some (vI (clT (setA M a) 0 1 h)), none, none, none, none, none, none]) (st2 := [vI ((1 : Int32) + (nI q))]) (m1 := (setA M (up2 a 0 2 (nI (svN s))))) rfl ?_
    rw [show (1 : Int32) + nI q = nI (1 + q) from nI_add 1 q]
    refine an_b 3 (pc2 := 700) (L2 := [some (vR 3 0 0), some (vI x), some (vI y), some (vR 8 0 0), some (vR 8 1 0), some (vR 8 2 0), some (vR 8 3 0), some (vR 8 4 0), some (vR 8 5 0), some (vR 8 6 0), some (vR 8 7 0), some (vR 8 8 0), some (vI ac), some (vI (nI h)), some (vI (nI r)), some (vI (clT (setA M a) 0 1 h)), some (vI (nI (1 + q))), none, none, none, none, none]) (st2 := [vI (1 : Int32), vR 8 0 0]) (m1 := (setA M (up2 a 0 2 (nI (svN s))))) rfl ?_
    refine an_la 0 1 (by decide) (by show _ < 7; omega) rfl rfl ?_
    rw [e1]
    refine an_b 3 (pc2 := 706) (L2 := [some (vR 3 0 0), some (vI x), some (vI y), some (vR 8 0 0), some (vR 8 1 0), some (vR 8 2 0), some (vR 8 3 0), some (vR 8 4 0), some (vR 8 5 0), some (vR 8 6 0), some (vR 8 7 0), some (vR 8 8 0), some (vI ac), some (vI (nI h)), some (vI (nI r)), some (vI (clT (setA M a) 0 1 h)), some (vI (nI (1 + q))), some (vI (zz m 4)), some (vI (0 : Int32)), none, none, none]) (st2 := []) (m1 := (setA M (up2 a 0 2 (nI (svN s))))) rfl ?_
    refine k3 _ _ ?_
    refine an_b 2 (pc2 := 961) (L2 := [some (vR 3 0 0), some (vI x), some (vI y), some (vR 8 0 0), some (vR 8 1 0), some (vR 8 2 0), some (vR 8 3 0), some (vR 8 4 0), some (vR 8 5 0), some (vR 8 6 0), some (vR 8 7 0), some (vR 8 8 0), some (vI ac), some (vI (nI h)), some (vI (nI r)), some (vI (clT (setA M a) 0 1 h)), some (vI (nI (1 + q))), some (vI (zz m 4)), none, none, none, none]) (st2 := [vI (nI (1 + q)), vR 3 0 0]) (m1 := (setA M a2)) rfl ?_
    refine an_call k2 rfl rfl rfl rfl ?_
    refine an_b 2 (pc2 := 966) (L2 := [some (vR 3 0 0), some (vI x), some (vI y), some (vR 8 0 0), some (vR 8 1 0), some (vR 8 2 0), some (vR 8 3 0), some (vR 8 4 0), some (vR 8 5 0), some (vR 8 6 0), some (vR 8 7 0), some (vR 8 8 0), some (vI ac), some (vI (nI h)), some (vI (nI r)), some (vI (clT (setA M a) 0 1 h)), some (vI (nI (1 + q))), some (vI (zz m 4)), none, none, none, none]) (st2 := [vI (1 : Int32), vR 8 0 0, vI (zz (passW m (1 + q) s) 4 - zz m 4)]) (m1 := (setA M1 a2)) rfl ?_
    refine an_la 0 1 (by decide) (by show _ < 7; omega) rfl rfl ?_
    rw [e2]
    refine an_b 3 (pc2 := if ¬ (zz (passW m (1 + q) s) 4 - zz m 4) = ((zz (passW m (1 + q) s) 4) - (zz m 4)) then 977 else 973) (L2 := [some (vR 3 0 0), some (vI x), some (vI y), some (vR 8 0 0), some (vR 8 1 0), some (vR 8 2 0), some (vR 8 3 0), some (vR 8 4 0), some (vR 8 5 0), some (vR 8 6 0), some (vR 8 7 0), some (vR 8 8 0), some (vI ac), some (vI (nI h)), some (vI (nI r)), some (vI (clT (setA M a) 0 1 h)), some (vI (nI (1 + q))), some (vI (zz m 4)), none, none, none, none]) (st2 := []) (m1 := (setA M1 a2)) rfl ?_
    refine an_f (fun q => q rfl) ?_
    refine an_b 2 (pc2 := 978) (L2 := [some (vR 3 0 0), some (vI x), some (vI y), some (vR 8 0 0), some (vR 8 1 0), some (vR 8 2 0), some (vR 8 3 0), some (vR 8 4 0), some (vR 8 5 0), some (vR 8 6 0), some (vR 8 7 0), some (vR 8 8 0), some (vI ac), some (vI (nI h)), some (vI (nI r)), some (vI (clT (setA M a) 0 1 h)), some (vI (nI (1 + q))), some (vI (zz m 4)), none, none, none, none]) (st2 := [vI (1 : Int32)]) (m1 := (setA M1 a2)) rfl ?_
    exact an_ret rfl rfl rfl rfl rfl
  refine an_b 2 (pc2 := 597) (L2 := [some (vR 3 0 0), some (vI x), some (vI y), some (vR 8 0 0), some (vR 8 1 0), some (vR 8 2 0), some (vR 8 3 0), some (vR 8 4 0), some (vR 8 5 0), some (vR 8 6 0), some (vR 8 7 0), some (vR 8 8 0), some (vI ac), some (vI (nI h)), some (vI (nI r)), some (vI (clT (setA M a) 0 1 h)), none, none, none, none, none, none]) (st2 := [vI (2 : Int32), vR 8 0 0]) (m1 := (setA M a)) rfl ?_
  refine an_la 0 2 (by decide) (by show _ < 7; omega) rfl rfl ?_
  refine an_b 2 (pc2 := if (6 : Int32) ≤ (nI s) then 610 else 603) (L2 := [some (vR 3 0 0), some (vI x), some (vI y), some (vR 8 0 0), some (vR 8 1 0), some (vR 8 2 0), some (vR 8 3 0), some (vR 8 4 0), some (vR 8 5 0), some (vR 8 6 0), some (vR 8 7 0), some (vR 8 8 0), some (vI ac), some (vI (nI h)), some (vI (nI r)), some (vI (clT (setA M a) 0 1 h)), none, none, none, none, none, none]) (st2 := []) (m1 := (setA M a)) (by rw [H2]; rfl) ?_
  by_cases c6 : s < 6
  · refine an_f (nI_ge (b := 6) c6 (by omega)) ?_
    refine an_b 3 (pc2 := 606) (L2 := [some (vR 3 0 0), some (vI x), some (vI y), some (vR 8 0 0), some (vR 8 1 0), some (vR 8 2 0), some (vR 8 3 0), some (vR 8 4 0), some (vR 8 5 0), some (vR 8 6 0), some (vR 8 7 0), some (vR 8 8 0), some (vI ac), some (vI (nI h)), some (vI (nI r)), some (vI (clT (setA M a) 0 1 h)), none, none, none, none, none, none]) (st2 := [vI (2 : Int32), vR 8 0 0, vI (2 : Int32), vR 8 0 0]) (m1 := (setA M a)) rfl ?_
    refine an_la 0 2 (by decide) (by show _ < 7; omega) rfl rfl ?_
    refine an_b 2 (pc2 := 609) (L2 := [some (vR 3 0 0), some (vI x), some (vI y), some (vR 8 0 0), some (vR 8 1 0), some (vR 8 2 0), some (vR 8 3 0), some (vR 8 4 0), some (vR 8 5 0), some (vR 8 6 0), some (vR 8 7 0), some (vR 8 8 0), some (vI ac), some (vI (nI h)), some (vI (nI r)), some (vI (clT (setA M a) 0 1 h)), none, none, none, none, none, none]) (st2 := [vI ((a 0 2) + (1 : Int32)), vI (2 : Int32), vR 8 0 0]) (m1 := (setA M a)) rfl ?_
    rw [H2, nI_1, show s + 1 = svN s by unfold svN; rw [if_neg (by omega)]]
    refine an_sa 0 2 (by decide) (by show _ < 7; omega) rfl rfl ?_
    exact nx
  · have e6 : svN s = s := by unfold svN; rw [if_pos (by omega)]; omega
    have nx := an_me (show up2 a 0 2 (nI (svN s)) = a by rw [e6]; exact up2_e _ H2) nx
    refine an_t (nI_le (a := 6) (by omega) (by omega)) ?_
    exact nx
end
