/-! handOn, append -/
def hoA (m : PM) (h r : Nat) : PM := w_X5_setLock m h r 0
def hoB (m : PM) (h r o : Nat) : PM := setz (hoA m h r) (grz (zz (hoA m h r)) r (plcN (hoA m h r) (nI o) r) (qn (hoA m h r) r) o)
def hoC (m : PM) (h r o : Nat) : PM := wI (hoB m h r o) 8 0 0 (113 + r) ((hoB m h r o).1 8 0 0 (113 + r) + 1)
theorem go_handOn (m : PM) (h r o s : Nat) (hh : h < 8) (hr : r < 12) (ho : o < 8) (hp : ¬ v_X5_placeIn (hoA (svM m s) h r) (nI o) r = -1) (hq : QA (zz m)) (hs6 : s ≤ 6) (hs1 : sts m = nI s) (c : cd_handOn m h r (nI o) = 0) : Rn MX5_handOn [vR 7 0 0, vI (nI h), vI (nI r), vI (nI o)] m (some (vI (v_X5_lockOf (hoC (svM m s) h r o) o r))) (w_X5_settle (hoC (svM m s) h r o) r) := by
  refine rn_of [some (vR 7 0 0), some (vI (nI h)), some (vI (nI r)), some (vI (nI o)), none, none] rfl ?_
  refine k_handOn m h r (nI o) hh hr (ql_of hq) _ _ (thr_go (Q := 47) (Q2 := 45) (fun _ _ => rfl) c ?_)
  refine an_b 1 (pc2 := 48) (L2 := [some (vR 7 0 0), some (vI (nI h)), some (vI (nI r)), some (vI (nI o)), none, none]) (st2 := [vR 7 0 0]) (m1 := wI m 7 0 0 5 0) rfl ?_
  refine an_call (rr_save m s hs6 hs1) rfl rfl rfl rfl ?_
  have qS : QA (zz (svM m s)) := by rw [zz_svM]; exact hq
  generalize svM m s = w at hp qS ⊢
  refine an_b 4 (pc2 := 55) (L2 := [some (vR 7 0 0), some (vI (nI h)), some (vI (nI r)), some (vI (nI o)), none, none]) (st2 := [vI 0, vI (nI r), vI (nI h), vR 7 0 0]) (m1 := w) rfl ?_
  refine an_call (r_X5_setLock w h r 0 hh hr) rfl rfl rfl rfl ?_
  have qA : QA (zz (hoA w h r)) := qa_setLock hh hr qS
  obtain ⟨e2, hp8, hp2, ew⟩ := plc_N (ql_of qA) hr hp
  refine an_b 5 (pc2 := 63) (L2 := [some (vR 7 0 0), some (vI (nI h)), some (vI (nI r)), some (vI (nI o)), none, none]) (st2 := [vI (nI r), vI (nI o), vR 7 0 0, vI (nI r), vR 7 0 0]) (m1 := hoA w h r) rfl ?_
  refine an_call (r_X5_placeIn (hoA w h r) (nI o) r hr (ql_of qA)) rfl rfl rfl rfl ?_
  rw [e2]
  have qB : QA (zz (hoB w h r o)) := by
    unfold hoB
    rw [zz_setz]
    exact qa_grz hr ho qA (qA r hr) hp2
  refine an_call (r_X5_grant (hoA w h r) r (plcN (hoA w h r) (nI o) r) (qn (hoA w h r) r) o hr (qA r hr).1 hp2 (qA r hr).2.1 ho ew) rfl rfl rfl rfl ?_
  show An MX5_handOn 69 [some (vR 7 0 0), some (vI (nI h)), some (vI (nI r)), some (vI (nI o)), none, none] [] (hoB w h r o) _ _
  refine an_b 6 (pc2 := 78) (L2 := [some (vR 7 0 0), some (vI (nI h)), some (vI (nI r)), some (vI (nI o)), none, none]) (st2 := [vI ((113 : Int32) + nI r), vR 8 0 0, vI ((113 : Int32) + nI r), vR 8 0 0]) (m1 := hoB w h r o) rfl ?_
  refine an_ald (113 + r) 361 rfl rfl (by simp only [ix_lit, nI_add]) (by omega) (by omega) ?_
  refine an_b 2 (pc2 := 81) (L2 := [some (vR 7 0 0), some (vI (nI h)), some (vI (nI r)), some (vI (nI o)), none, none]) (st2 := [vI ((hoB w h r o).1 8 0 0 (113 + r) + 1), vI ((113 : Int32) + nI r), vR 8 0 0]) (m1 := hoB w h r o) rfl ?_
  refine an_ast (113 + r) 361 rfl rfl (by decide) (by simp only [ix_lit, nI_add]) (by omega) (by omega) ?_
  have qC : QA (zz (hoC w h r o)) := by
    unfold hoC
    rw [zz_wI]
    exact qa_upd qB _ _ (Or.inl (by omega))
  refine an_b 3 (pc2 := 85) (L2 := [some (vR 7 0 0), some (vI (nI h)), some (vI (nI r)), some (vI (nI o)), none, none]) (st2 := [vI (nI r), vI (nI o), vR 7 0 0]) (m1 := hoC w h r o) rfl ?_
  refine an_call (r_X5_lockOf (hoC w h r o) o r ho hr) rfl rfl rfl rfl ?_
  generalize v_X5_lockOf (hoC w h r o) o r = md
  refine an_b 3 (pc2 := 92) (L2 := [some (vR 7 0 0), some (vI (nI h)), some (vI (nI r)), some (vI (nI o)), some (vI md), none]) (st2 := [vI (nI r), vR 7 0 0]) (m1 := hoC w h r o) rfl ?_
  refine an_call (rr_settle _ r hr qC) rfl rfl rfl rfl ?_
  refine an_b 2 (pc2 := 99) (L2 := [some (vR 7 0 0), some (vI (nI h)), some (vI (nI r)), some (vI (nI o)), some (vI md), some (vI (v_X5_settle (hoC w h r o) r))]) (st2 := [vI md]) (m1 := w_X5_settle (hoC w h r o) r) rfl ?_
  exact an_ret rfl rfl rfl rfl rfl
def cd_append (m : PM) (a1 : Int32) : Int32 := if ¬ v_X5_within m a1 33 126 = 0 then (if ¬ m.1 7 0 0 3 = (60 : Int32) then 0 else 2) else 1
theorem k_append (m : PM) (a1 : Int32) : Re MX5_append (0, [some (vR 7 0 0), some (vI a1)], [], m) (30, [some (vR 7 0 0), some (vI a1)], [vI (cd_append m a1), vR 7 0 0], m) := by
  intro v9 m9 K0
  unfold cd_append at K0
  show An MX5_append 0 [some (vR 7 0 0), some (vI a1)] [] m v9 m9
  refine an_b 4 (pc2 := 6) (L2 := [some (vR 7 0 0), some (vI a1)]) (st2 := [vI 126, vI 33, vI a1, vR 7 0 0]) (m1 := m) rfl ?_
  refine an_call (r_X5_within m a1 33 126) rfl rfl rfl rfl ?_
  refine an_b 1 (pc2 := if ¬ v_X5_within m a1 33 126 = 0 then 16 else 12) (L2 := [some (vR 7 0 0), some (vI a1)]) (st2 := [vR 7 0 0]) (m1 := m) rfl ?_
  refine re_if1 (c := ¬ v_X5_within m a1 33 126 = 0) (a := (if ¬ m.1 7 0 0 3 = (60 : Int32) then (0 : Int32) else 2)) (b := (1 : Int32)) (fun x => (30, [some (vR 7 0 0), some (vI a1)], [vI x, vR 7 0 0], m)) (fun h1 v9 m9 K1 => ?_) (fun h1 v9 m9 K1 => ?_) _ _ K0
  · show An MX5_append 16 [some (vR 7 0 0), some (vI a1)] [vR 7 0 0] m v9 m9
    refine an_b 4 (pc2 := if ¬ m.1 7 0 0 3 = (60 : Int32) then 29 else 25) (L2 := [some (vR 7 0 0), some (vI a1)]) (st2 := [vR 7 0 0]) (m1 := m) rfl ?_
    refine re_if1 (c := ¬ m.1 7 0 0 3 = (60 : Int32)) (a := (0 : Int32)) (b := (2 : Int32)) (fun x => (30, [some (vR 7 0 0), some (vI a1)], [vI x, vR 7 0 0], m)) (fun h2 v9 m9 K2 => ?_) (fun h2 v9 m9 K2 => ?_) _ _ K1
    · show An MX5_append 29 [some (vR 7 0 0), some (vI a1)] [vR 7 0 0] m v9 m9
      refine an_b 1 (pc2 := 30) (L2 := [some (vR 7 0 0), some (vI a1)]) (st2 := [vI (0 : Int32), vR 7 0 0]) (m1 := m) rfl ?_
      exact K2
    · show An MX5_append 25 [some (vR 7 0 0), some (vI a1)] [vR 7 0 0] m v9 m9
      refine an_b 2 (pc2 := 30) (L2 := [some (vR 7 0 0), some (vI a1)]) (st2 := [vI (2 : Int32), vR 7 0 0]) (m1 := m) rfl ?_
      exact K2
  · show An MX5_append 12 [some (vR 7 0 0), some (vI a1)] [vR 7 0 0] m v9 m9
    refine an_b 2 (pc2 := 30) (L2 := [some (vR 7 0 0), some (vI a1)]) (st2 := [vI (1 : Int32), vR 7 0 0]) (m1 := m) rfl ?_
    exact K1
theorem no_append (m : PM) (a1 : Int32) (c : ¬ cd_append m a1 ≤ 0) : Rn MX5_append [vR 7 0 0, vI a1] m (some (vI 0)) (wI m 7 0 0 5 (cd_append m a1)) := by
  refine rn_of [some (vR 7 0 0), some (vI a1)] rfl ?_
  exact k_append m a1 _ _ (thr_no (Q := 42) (Q2 := 40) (Q3 := 41) (n := 1) (fun _ _ => rfl) (fun _ => rfl) (fun _ => an_ret rfl rfl rfl rfl rfl) c)
def appW (m : PM) (a1 : Int32) (len : Nat) : PM := wI (wI (wI m 7 0 0 5 0) 8 2 0 len a1) 7 0 0 3 (nI (len + 1))
theorem go_append (m : PM) (a1 : Int32) (len : Nat) (hl : m.1 7 0 0 3 = nI len) (h60 : len < 60) (c : cd_append m a1 = 0) : Rn MX5_append [vR 7 0 0, vI a1] m (some (vI (nI (len + 1)))) (appW m a1 len) := by
  refine rn_of [some (vR 7 0 0), some (vI a1)] rfl ?_
  refine k_append m a1 _ _ (thr_go (Q := 42) (Q2 := 40) (fun _ _ => rfl) c ?_)
  have e1 : (wI m 7 0 0 5 0).1 7 0 0 3 = nI len := by
    rw [← hl]
    unfold wI
    dsimp only
    rw [if_neg (by decide)]
  refine an_b 4 (pc2 := 50) (L2 := [some (vR 7 0 0), some (vI a1)]) (st2 := [vI ((wI m 7 0 0 5 0).1 7 0 0 3), vR 8 2 0]) (m1 := wI m 7 0 0 5 0) rfl ?_
  rw [e1]
  refine an_b 1 (pc2 := 51) (L2 := [some (vR 7 0 0), some (vI a1)]) (st2 := [vI a1, vI (nI len), vR 8 2 0]) (m1 := wI m 7 0 0 5 0) rfl ?_
  refine an_ast len 60 rfl rfl (by decide) rfl (by omega) (by omega) ?_
  have e2 : (wI (wI m 7 0 0 5 0) 8 2 0 len a1).1 7 0 0 3 = nI len := by
    rw [← e1]
    unfold wI
    dsimp only
    rw [if_neg (fun q => absurd q.1 (by decide))]
  refine an_b 3 (pc2 := 57) (L2 := [some (vR 7 0 0), some (vI a1)]) (st2 := [vI ((wI (wI m 7 0 0 5 0) 8 2 0 len a1).1 7 0 0 3), vR 7 0 0]) (m1 := wI (wI m 7 0 0 5 0) 8 2 0 len a1) rfl ?_
  rw [e2]
  refine an_b 3 (pc2 := 62) (L2 := [some (vR 7 0 0), some (vI a1)]) (st2 := []) (m1 := wI (wI (wI m 7 0 0 5 0) 8 2 0 len a1) 7 0 0 3 (nI len + 1)) rfl ?_
  rw [nI_1]
  refine an_b 2 (pc2 := 66) (L2 := [some (vR 7 0 0), some (vI a1)]) (st2 := [vI ((appW m a1 len).1 7 0 0 3)]) (m1 := appW m a1 len) rfl ?_
  have e3 : (appW m a1 len).1 7 0 0 3 = nI (len + 1) := w_at _ _ _ _ _ _
  rw [e3]
  exact an_ret rfl rfl rfl rfl rfl
