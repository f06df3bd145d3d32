/-! tick -/
theorem qa_burn {m : PM} {r : Nat} (hr : r < 12) (hq : QA (zz m)) : QA (zz (w_X5_burn m r)) := by
  unfold w_X5_burn
  rw [zz_wI]
  refine qa_upd ?_ _ _ (Or.inl (by omega))
  refine lp_inv (b_X5_burn_1 m r) 8 (fun _ s => QA (zz s.2)) (fun j s hj hs => ?_) 8 0 _ rfl hq
  unfold b_X5_burn_1
  dsimp only
  split
  · exact hs
  · rw [zz_wI]
    exact qa_upd (qa_setLock hj hr hs) _ _ (Or.inr (by omega))
def heatN (m : PM) (j : Nat) : Int32 := m.1 8 0 0 (101 + j) + (if v_X5_greatestOf m j ≤ 0 then -(m.1 8 0 0 2) else v_X5_greatestOf m j * m.1 8 0 0 1)
def b_X5_tick_1 (j : Nat) (s : PM) : PM := wI s 8 0 0 (101 + j) (if 0 ≤ heatN s j then (if heatN s j ≤ (1000 : Int32) then heatN s j else 1000) else 0)
def tickV (m : PM) (j : Nat) : Int32 := if m.1 8 0 0 (101 + j) ≤ m.1 8 0 0 0 then 0 else v_X5_burn m j
def tickW (m : PM) (j : Nat) : PM := if m.1 8 0 0 (101 + j) ≤ m.1 8 0 0 0 then m else w_X5_burn m j
def b_X5_tick_2 (j : Nat) (s : Int32 × PM) : Int32 × PM := (s.1 ||| (if tickV s.2 j ≤ 0 then 0 else (1 : Int32) <<< (nI j &&& (31 : Int32))), if tickV s.2 j ≤ 0 then tickW s.2 j else w_X5_settle (tickW s.2 j) j)
def tick_1 (m : PM) : PM := lp b_X5_tick_1 12 0 (wI m 8 0 0 3 (m.1 8 0 0 3 + 1))
def tick_2 (m : PM) : Int32 × PM := lp b_X5_tick_2 12 0 (0, tick_1 m)
def v_X5_tick (m : PM) : Int32 := (tick_2 m).1
def w_X5_tick (m : PM) : PM := (tick_2 m).2
theorem qa_tick_1 {j : Nat} {s : PM} (hj : j < 12) (hs : QA (zz s)) : QA (zz (b_X5_tick_1 j s)) := by
  unfold b_X5_tick_1
  rw [zz_wI]
  exact qa_upd hs _ _ (Or.inl (by omega))
theorem qa_tickW {j : Nat} {s : PM} (hj : j < 12) (hs : QA (zz s)) : QA (zz (tickW s j)) := by
  unfold tickW
  split
  · exact hs
  · exact qa_burn hj hs
theorem qa_tick_2 {j : Nat} {s : Int32 × PM} (hj : j < 12) (hs : QA (zz s.2)) : QA (zz (b_X5_tick_2 j s).2) := by
  unfold b_X5_tick_2
  dsimp only
  split
  · exact qa_tickW hj hs
  · exact qa_settle hj (qa_tickW hj hs)
theorem qa_t1 {m : PM} (hq : QA (zz m)) : QA (zz (tick_1 m)) := lp_inv b_X5_tick_1 12 (fun _ s => QA (zz s)) (fun _ _ hj hs => qa_tick_1 hj hs) 12 0 _ rfl (by rw [zz_wI]; exact qa_upd hq _ _ (Or.inl (by omega)))
theorem qa_tick {m : PM} (hq : QA (zz m)) : QA (zz (w_X5_tick m)) := lp_inv b_X5_tick_2 12 (fun _ s => QA (zz s.2)) (fun _ _ hj hs => qa_tick_2 hj hs) 12 0 (0, tick_1 m) rfl (qa_t1 hq)
theorem r_X5_tick (m : PM) (hq : QA (zz m)) : Rn MX5_tick [vR 7 0 0] m (some (vI (v_X5_tick m))) (w_X5_tick m) := by
  refine rn_of [some (vR 7 0 0), none, none, none, none] rfl ?_
  refine an_b 4 (pc2 := 6) (L2 := [some (vR 7 0 0), none, none, none, none]) (st2 := [vI 3, vR 8 0 0, vI 3, vR 8 0 0]) (m1 := m) rfl ?_
  refine an_ald 3 361 rfl rfl rfl (by omega) (by omega) ?_
  refine an_b 2 (pc2 := 9) (L2 := [some (vR 7 0 0), none, none, none, none]) (st2 := [vI (m.1 8 0 0 3 + 1), vI 3, vR 8 0 0]) (m1 := m) rfl ?_
  refine an_ast 3 361 rfl rfl (by decide) rfl (by omega) (by omega) ?_
  have q0 : QA (zz (wI m 8 0 0 3 (m.1 8 0 0 3 + 1))) := by rw [zz_wI]; exact qa_upd hq _ _ (Or.inl (by omega))
  refine an_b 2 (pc2 := 12) (L2 := [some (vR 7 0 0), some (vI 0), none, none, none]) (st2 := []) (m1 := wI m 8 0 0 3 (m.1 8 0 0 3 + 1)) rfl ?_
  refine re_lpi (σ := PM) b_X5_tick_1 (fun _ s => QA (zz s)) (fun j s => (12, [some (vR 7 0 0), some (vI (nI j)), none, none, none], [], s)) 12 (fun s => (94, [some (vR 7 0 0), some (vI (nI 12)), none, none, none], [], s)) (fun j s hj hs => qa_tick_1 hj hs) (fun j s hj hs v9 m9 K => ?_) (fun s hs v9 m9 K => ?_) 12 0 _ rfl q0 _ _ ?_
  · show An MX5_tick 12 [some (vR 7 0 0), some (vI (nI j)), none, none, none] [] s v9 m9
    have K : An MX5_tick 12 [some (vR 7 0 0), some (vI (nI (j + 1))), none, none, none] [] (b_X5_tick_1 j s) v9 m9 := K
    refine an_b 3 (pc2 := if (12 : Int32) ≤ nI j then 94 else 18) (L2 := [some (vR 7 0 0), some (vI (nI j)), none, none, none]) (st2 := []) (m1 := s) rfl ?_
    refine an_f (nI_ge (a := j) (b := 12) (by omega) (by omega)) ?_
    refine an_b 2 (pc2 := 20) (L2 := [some (vR 7 0 0), some (vI (nI j)), none, none, none]) (st2 := [vI (nI j), vR 7 0 0]) (m1 := s) rfl ?_
    refine an_call (r_X5_greatestOf s j hj) rfl rfl rfl rfl ?_
    have hN : heatN s j = s.1 8 0 0 (101 + j) + (if v_X5_greatestOf s j ≤ 0 then -(s.1 8 0 0 2) else v_X5_greatestOf s j * s.1 8 0 0 1) := rfl
    generalize v_X5_greatestOf s j = most at hN ⊢
    refine an_b 6 (pc2 := 32) (L2 := [some (vR 7 0 0), some (vI (nI j)), some (vI most), none, none]) (st2 := [vI ((101 : Int32) + nI j), vR 8 0 0]) (m1 := s) rfl ?_
    refine an_ald (101 + j) 361 rfl rfl (by simp only [ix_lit, nI_add]) (by omega) (by omega) ?_
    refine an_b 2 (pc2 := if most ≤ 0 then 48 else 37) (L2 := [some (vR 7 0 0), some (vI (nI j)), some (vI most), none, none]) (st2 := [vI (s.1 8 0 0 (101 + j))]) (m1 := s) rfl ?_
    have B : ∀ x : Int32, heatN s j = s.1 8 0 0 (101 + j) + x → An MX5_tick 55 [some (vR 7 0 0), some (vI (nI j)), some (vI most), none, none] [vI x, vI (s.1 8 0 0 (101 + j))] s v9 m9 := by
      intro x hx
      have E : ∀ y : Int32, (if 0 ≤ heatN s j then (if heatN s j ≤ (1000 : Int32) then heatN s j else 1000) else 0) = y → An MX5_tick 87 [some (vR 7 0 0), some (vI (nI j)), some (vI most), some (vI (heatN s j)), none] [vI y, vI ((101 : Int32) + nI j), vR 8 0 0] s v9 m9 := by
        intro y hy
        refine an_ast (101 + j) 361 rfl rfl (by decide) (by simp only [ix_lit, nI_add]) (by omega) (by omega) ?_
        rw [← hy]
        refine an_b 2 (pc2 := 12) (L2 := [some (vR 7 0 0), some (vI (nI j + 1)), some (vI most), some (vI (heatN s j)), none]) (st2 := []) (m1 := b_X5_tick_1 j s) rfl ?_
        rw [nI_1]
        exact an_weak (L := [some (vR 7 0 0), some (vI (nI (j + 1))), none, none, none]) (⟨rfl, rfl, trivial⟩) K
      refine an_b 9 (pc2 := if 0 ≤ heatN s j then 73 else 69) (L2 := [some (vR 7 0 0), some (vI (nI j)), some (vI most), some (vI (heatN s j)), none]) (st2 := [vI ((101 : Int32) + nI j), vR 8 0 0]) (m1 := s) (by rw [hx]; rfl) ?_
      by_cases c1 : 0 ≤ heatN s j
      · refine an_t c1 ?_
        refine an_b 3 (pc2 := if heatN s j ≤ (1000 : Int32) then 86 else 80) (L2 := [some (vR 7 0 0), some (vI (nI j)), some (vI most), some (vI (heatN s j)), none]) (st2 := [vI ((101 : Int32) + nI j), vR 8 0 0]) (m1 := s) rfl ?_
        by_cases c2 : heatN s j ≤ (1000 : Int32)
        · refine an_t c2 ?_
          refine an_b 1 (pc2 := 87) (L2 := [some (vR 7 0 0), some (vI (nI j)), some (vI most), some (vI (heatN s j)), none]) (st2 := [vI (heatN s j), vI ((101 : Int32) + nI j), vR 8 0 0]) (m1 := s) rfl ?_
          refine E _ ?_
          rw [if_pos c1, if_pos c2]
        · refine an_f c2 ?_
          refine an_b 2 (pc2 := 87) (L2 := [some (vR 7 0 0), some (vI (nI j)), some (vI most), some (vI (heatN s j)), none]) (st2 := [vI 1000, vI ((101 : Int32) + nI j), vR 8 0 0]) (m1 := s) rfl ?_
          refine E _ ?_
          rw [if_pos c1, if_neg c2]
      · refine an_f c1 ?_
        refine an_b 2 (pc2 := 87) (L2 := [some (vR 7 0 0), some (vI (nI j)), some (vI most), some (vI (heatN s j)), none]) (st2 := [vI 0, vI ((101 : Int32) + nI j), vR 8 0 0]) (m1 := s) rfl ?_
        refine E _ ?_
        rw [if_neg c1]
    by_cases c : most ≤ 0
    · refine an_t c ?_
      refine an_b 3 (pc2 := 53) (L2 := [some (vR 7 0 0), some (vI (nI j)), some (vI most), none, none]) (st2 := [vI 2, vR 8 0 0, vI (s.1 8 0 0 (101 + j))]) (m1 := s) rfl ?_
      refine an_ald 2 361 rfl rfl rfl (by omega) (by omega) ?_
      refine an_b 1 (pc2 := 55) (L2 := [some (vR 7 0 0), some (vI (nI j)), some (vI most), none, none]) (st2 := [vI (-(s.1 8 0 0 2)), vI (s.1 8 0 0 (101 + j))]) (m1 := s) rfl ?_
      refine B _ ?_
      rw [hN, if_pos c]
    · refine an_f c ?_
      refine an_b 4 (pc2 := 43) (L2 := [some (vR 7 0 0), some (vI (nI j)), some (vI most), none, none]) (st2 := [vI 1, vR 8 0 0, vI most, vI (s.1 8 0 0 (101 + j))]) (m1 := s) rfl ?_
      refine an_ald 1 361 rfl rfl rfl (by omega) (by omega) ?_
      refine an_b 2 (pc2 := 55) (L2 := [some (vR 7 0 0), some (vI (nI j)), some (vI most), none, none]) (st2 := [vI (most * s.1 8 0 0 1), vI (s.1 8 0 0 (101 + j))]) (m1 := s) rfl ?_
      refine B _ ?_
      rw [hN, if_neg c]
  · show An MX5_tick 12 [some (vR 7 0 0), some (vI (nI 12)), none, none, none] [] s v9 m9
    refine an_b 3 (pc2 := if (12 : Int32) ≤ nI 12 then 94 else 18) (L2 := [some (vR 7 0 0), some (vI (nI 12)), none, none, none]) (st2 := []) (m1 := s) rfl ?_
    exact an_t (by decide) K
  show An MX5_tick 94 [some (vR 7 0 0), some (vI (nI 12)), none, none, none] [] (tick_1 m) _ _
  have q1 := qa_t1 hq
  refine an_b 4 (pc2 := 98) (L2 := [some (vR 7 0 0), some (vI 0), some (vI 0), none, none]) (st2 := []) (m1 := tick_1 m) rfl ?_
  refine re_lpi (σ := Int32 × PM) b_X5_tick_2 (fun _ s => QA (zz s.2)) (fun j s => (98, [some (vR 7 0 0), some (vI s.1), some (vI (nI j)), none, none], [], s.2)) 12 (fun s => (167, [some (vR 7 0 0), some (vI s.1), some (vI (nI 12)), none, none], [], s.2)) (fun j s hj hs => qa_tick_2 hj hs) (fun j s hj hs v9 m9 K => ?_) (fun s hs v9 m9 K => ?_) 12 0 (0, tick_1 m) rfl q1 _ _ ?_
  · obtain ⟨b, s⟩ := s
    have hs : QA (zz s) := hs
    show An MX5_tick 98 [some (vR 7 0 0), some (vI b), some (vI (nI j)), none, none] [] s v9 m9
    have K : An MX5_tick 98 [some (vR 7 0 0), some (vI (b ||| (if tickV s j ≤ 0 then 0 else (1 : Int32) <<< (nI j &&& (31 : Int32))))), some (vI (nI (j + 1))), none, none] [] (if tickV s j ≤ 0 then tickW s j else w_X5_settle (tickW s j) j) v9 m9 := K
    refine an_b 3 (pc2 := if (12 : Int32) ≤ nI j then 167 else 104) (L2 := [some (vR 7 0 0), some (vI b), some (vI (nI j)), none, none]) (st2 := []) (m1 := s) rfl ?_
    refine an_f (nI_ge (a := j) (b := 12) (by omega) (by omega)) ?_
    refine an_b 5 (pc2 := 112) (L2 := [some (vR 7 0 0), some (vI b), some (vI (nI j)), none, none]) (st2 := [vI ((101 : Int32) + nI j), vR 8 0 0]) (m1 := s) rfl ?_
    refine an_ald (101 + j) 361 rfl rfl (by simp only [ix_lit, nI_add]) (by omega) (by omega) ?_
    refine an_b 3 (pc2 := 118) (L2 := [some (vR 7 0 0), some (vI b), some (vI (nI j)), none, none]) (st2 := [vI 0, vR 8 0 0, vI (s.1 8 0 0 (101 + j))]) (m1 := s) rfl ?_
    refine an_ald 0 361 rfl rfl rfl (by omega) (by omega) ?_
    refine an_b 1 (pc2 := if s.1 8 0 0 (101 + j) ≤ s.1 8 0 0 0 then 130 else 122) (L2 := [some (vR 7 0 0), some (vI b), some (vI (nI j)), none, none]) (st2 := []) (m1 := s) rfl ?_
    have B : An MX5_tick 131 [some (vR 7 0 0), some (vI b), some (vI (nI j)), none, none] [vI (tickV s j)] (tickW s j) v9 m9 := by
      have qW := qa_tickW hj hs
      generalize tickV s j = x at K ⊢
      generalize tickW s j = w at K qW ⊢
      have C : ∀ (y : Int32) (m3 : PM), (if x ≤ 0 then w else w_X5_settle w j) = m3 → An MX5_tick 145 [some (vR 7 0 0), some (vI b), some (vI (nI j)), some (vI x), none] [vI y] m3 v9 m9 := by
        intro y m3 h3
        rw [h3] at K
        refine an_b 4 (pc2 := if x ≤ 0 then 158 else 152) (L2 := [some (vR 7 0 0), some (vI b), some (vI (nI j)), some (vI x), some (vI y)]) (st2 := [vI b]) (m1 := m3) rfl ?_
        have D : ∀ u : Int32, (if x ≤ 0 then 0 else (1 : Int32) <<< (nI j &&& (31 : Int32))) = u → An MX5_tick 159 [some (vR 7 0 0), some (vI b), some (vI (nI j)), some (vI x), some (vI y)] [vI u, vI b] m3 v9 m9 := by
          intro u hu
          rw [hu] at K
          refine an_b 4 (pc2 := 98) (L2 := [some (vR 7 0 0), some (vI (b ||| u)), some (vI (nI j + 1)), some (vI x), some (vI y)]) (st2 := []) (m1 := m3) rfl ?_
          rw [nI_1]
          exact an_weak (L := [some (vR 7 0 0), some (vI (b ||| u)), some (vI (nI (j + 1))), none, none]) (⟨rfl, rfl, rfl, trivial⟩) K
        by_cases c : x ≤ 0
        · refine an_t c ?_
          refine an_b 1 (pc2 := 159) (L2 := [some (vR 7 0 0), some (vI b), some (vI (nI j)), some (vI x), some (vI y)]) (st2 := [vI 0, vI b]) (m1 := m3) rfl ?_
          refine D _ ?_
          rw [if_pos c]
        · refine an_f c ?_
          refine an_b 4 (pc2 := 159) (L2 := [some (vR 7 0 0), some (vI b), some (vI (nI j)), some (vI x), some (vI y)]) (st2 := [vI ((1 : Int32) <<< (nI j &&& (31 : Int32))), vI b]) (m1 := m3) rfl ?_
          refine D _ ?_
          rw [if_neg c]
      refine an_b 3 (pc2 := if x ≤ 0 then 144 else 136) (L2 := [some (vR 7 0 0), some (vI b), some (vI (nI j)), some (vI x), none]) (st2 := []) (m1 := w) rfl ?_
      by_cases c : x ≤ 0
      · refine an_t c ?_
        refine an_b 1 (pc2 := 145) (L2 := [some (vR 7 0 0), some (vI b), some (vI (nI j)), some (vI x), none]) (st2 := [vI 0]) (m1 := w) rfl ?_
        refine C _ _ ?_
        rw [if_pos c]
      · refine an_f c ?_
        refine an_b 2 (pc2 := 138) (L2 := [some (vR 7 0 0), some (vI b), some (vI (nI j)), some (vI x), none]) (st2 := [vI (nI j), vR 7 0 0]) (m1 := w) rfl ?_
        refine an_call (rr_settle w j hj qW) rfl rfl rfl rfl ?_
        refine an_b 1 (pc2 := 145) (L2 := [some (vR 7 0 0), some (vI b), some (vI (nI j)), some (vI x), none]) (st2 := [vI (v_X5_settle w j)]) (m1 := w_X5_settle w j) rfl ?_
        refine C _ _ ?_
        rw [if_neg c]
    by_cases c : s.1 8 0 0 (101 + j) ≤ s.1 8 0 0 0
    · refine an_t c ?_
      have eV : tickV s j = 0 := by unfold tickV; rw [if_pos c]
      have eW : tickW s j = s := by unfold tickW; rw [if_pos c]
      rw [eV, eW] at B
      refine an_b 1 (pc2 := 131) (L2 := [some (vR 7 0 0), some (vI b), some (vI (nI j)), none, none]) (st2 := [vI 0]) (m1 := s) rfl ?_
      exact B
    · refine an_f c ?_
      have eV : tickV s j = v_X5_burn s j := by unfold tickV; rw [if_neg c]
      have eW : tickW s j = w_X5_burn s j := by unfold tickW; rw [if_neg c]
      rw [eV, eW] at B
      refine an_b 2 (pc2 := 124) (L2 := [some (vR 7 0 0), some (vI b), some (vI (nI j)), none, none]) (st2 := [vI (nI j), vR 7 0 0]) (m1 := s) rfl ?_
      refine an_call (r_X5_burn s j hj) rfl rfl rfl rfl ?_
      refine an_b 1 (pc2 := 131) (L2 := [some (vR 7 0 0), some (vI b), some (vI (nI j)), none, none]) (st2 := [vI (v_X5_burn s j)]) (m1 := w_X5_burn s j) rfl ?_
      exact B
  · show An MX5_tick 98 [some (vR 7 0 0), some (vI s.1), some (vI (nI 12)), none, none] [] s.2 v9 m9
    refine an_b 3 (pc2 := if (12 : Int32) ≤ nI 12 then 167 else 104) (L2 := [some (vR 7 0 0), some (vI s.1), some (vI (nI 12)), none, none]) (st2 := []) (m1 := s.2) rfl ?_
    exact an_t (by decide) K
  show An MX5_tick 167 [some (vR 7 0 0), some (vI (v_X5_tick m)), some (vI (nI 12)), none, none] [] (w_X5_tick m) _ _
  refine an_b 1 (pc2 := 168) (L2 := [some (vR 7 0 0), some (vI (v_X5_tick m)), some (vI (nI 12)), none, none]) (st2 := [vI (v_X5_tick m)]) (m1 := w_X5_tick m) rfl ?_
  exact an_ret rfl rfl rfl rfl rfl
