/-! keep, layBack, askedThen, burnsNow -/
theorem nI_nm1 {n : Nat} (h : n < 2 ^ 31) : ¬ nI n = -1 := fun e => nI_pos h (by rw [e]; decide)
theorem zz_keep (m : PM) : zz (w_X5_keep m) = zz m := by
  refine lp_inv (b_X5_keep_1 m) 361 (fun _ s => zz s = zz m) (fun j s hj h => ?_) 361 0 m rfl rfl
  rw [← h]
  funext i
  unfold b_X5_keep_1 zz wI
  dsimp only
  rw [if_neg (by omega)]
theorem qa_keep {m : PM} (hq : QA (zz m)) : QA (zz (w_X5_keep m)) := by rw [zz_keep]; exact hq
def v_X5_askedThen (m : PM) (h r : Nat) (md what : Int32) : Int32 := if v_X5_waits m (nI h) = 0 then (if ¬ what = 0 then (if ¬ what = (1 : Int32) then v_X5_allLocks (w_X5_asks (w_X5_keep m) h r md) else v_X5_sumFrom (w_X5_asks (w_X5_keep m) h r md) 337 8 - v_X5_sumFrom (w_X5_keep m) 337 8) else v_X5_asks (w_X5_keep m) h r md) else (-1 : Int32)
def w_X5_askedThen (m : PM) (h r : Nat) (md : Int32) : PM := if v_X5_waits m (nI h) = 0 then w_X5_layBack (w_X5_asks (w_X5_keep m) h r md) else m
theorem r_X5_askedThen (m : PM) (h r : Nat) (md what : Int32) (hh : h < 8) (hr : r < 12) (hq : QA (zz m)) (hn : v_X5_waits m (nI h) = 0 → qn (w_X5_keep m) r < 8) (he : v_X5_waits m (nI h) = 0 → v_X5_lockOf (askA (w_X5_keep m) h) h r < md → v_X5_isInRing (askR (w_X5_keep m) h r md) (nI h) = 0) : Rn MX5_askedThen [vR 7 0 0, vI (nI h), vI (nI r), vI md, vI what] m (some (vI (v_X5_askedThen m h r md what))) (w_X5_askedThen m h r md) := by
  refine rn_of [some (vR 7 0 0), some (vI (nI h)), some (vI (nI r)), some (vI md), some (vI what), none, none, none] rfl ?_
  refine an_b 2 (pc2 := 2) (L2 := [some (vR 7 0 0), some (vI (nI h)), some (vI (nI r)), some (vI md), some (vI what), none, none, none]) (st2 := [vI (nI h), vR 7 0 0]) (m1 := m) rfl ?_
  refine an_call (r_X5_waits m (nI h) (ql_of hq)) rfl rfl rfl rfl ?_
  refine an_b 1 (pc2 := if v_X5_waits m (nI h) = 0 then 10 else 8) (L2 := [some (vR 7 0 0), some (vI (nI h)), some (vI (nI r)), some (vI md), some (vI what), none, none, none]) (st2 := []) (m1 := m) rfl ?_
  by_cases c : v_X5_waits m (nI h) = 0
  · refine an_t c ?_
    have ev : v_X5_askedThen m h r md what = (if ¬ what = 0 then (if ¬ what = (1 : Int32) then v_X5_allLocks (w_X5_asks (w_X5_keep m) h r md) else v_X5_sumFrom (w_X5_asks (w_X5_keep m) h r md) 337 8 - v_X5_sumFrom (w_X5_keep m) 337 8) else v_X5_asks (w_X5_keep m) h r md) := by unfold v_X5_askedThen; rw [if_pos c]
    have ew : w_X5_askedThen m h r md = w_X5_layBack (w_X5_asks (w_X5_keep m) h r md) := by unfold w_X5_askedThen; rw [if_pos c]
    rw [ev, ew]
    refine an_b 1 (pc2 := 11) (L2 := [some (vR 7 0 0), some (vI (nI h)), some (vI (nI r)), some (vI md), some (vI what), none, none, none]) (st2 := [vR 7 0 0]) (m1 := m) rfl ?_
    refine an_call (r_X5_keep m) rfl rfl rfl rfl ?_
    have qk := qa_keep hq
    have r2 := r_X5_asks (w_X5_keep m) h r md hh hr qk (hn c) (he c)
    generalize w_X5_keep m = mk at r2 ⊢
    refine an_b 3 (pc2 := 20) (L2 := [some (vR 7 0 0), some (vI (nI h)), some (vI (nI r)), some (vI md), some (vI what), none, none, none]) (st2 := [vI (nI 8), vI (nI 337), vR 7 0 0]) (m1 := mk) rfl ?_
    refine an_call (r_X5_sumFrom mk 337 8 (by decide) (by decide)) rfl rfl rfl rfl ?_
    generalize v_X5_sumFrom mk 337 8 = lost
    refine an_b 5 (pc2 := 29) (L2 := [some (vR 7 0 0), some (vI (nI h)), some (vI (nI r)), some (vI md), some (vI what), some (vI lost), none, none]) (st2 := [vI md, vI (nI r), vI (nI h), vR 7 0 0]) (m1 := mk) rfl ?_
    refine an_call r2 rfl rfl rfl rfl ?_
    generalize v_X5_asks mk h r md = told
    generalize w_X5_asks mk h r md = m2
    refine an_b 3 (pc2 := if ¬ what = 0 then 44 else 39) (L2 := [some (vR 7 0 0), some (vI (nI h)), some (vI (nI r)), some (vI md), some (vI what), some (vI lost), some (vI told), none]) (st2 := []) (m1 := m2) rfl ?_
    have E : ∀ x : Int32, An MX5_askedThen 69 [some (vR 7 0 0), some (vI (nI h)), some (vI (nI r)), some (vI md), some (vI what), some (vI lost), some (vI told), none] [vI x] m2 (.inl (some (vI x))) (w_X5_layBack m2) := by
      intro x
      refine an_b 2 (pc2 := 72) (L2 := [some (vR 7 0 0), some (vI (nI h)), some (vI (nI r)), some (vI md), some (vI what), some (vI lost), some (vI told), some (vI x)]) (st2 := [vR 7 0 0]) (m1 := m2) rfl ?_
      refine an_call (r_X5_layBack m2) rfl rfl rfl rfl ?_
      refine an_b 1 (pc2 := 77) (L2 := [some (vR 7 0 0), some (vI (nI h)), some (vI (nI r)), some (vI md), some (vI what), some (vI lost), some (vI told), some (vI x)]) (st2 := [vI x]) (m1 := w_X5_layBack m2) rfl ?_
      exact an_ret rfl rfl rfl rfl rfl
    by_cases c1 : what = 0
    · refine an_f (fun q => q c1) ?_
      rw [if_neg (fun q => q c1)]
      refine an_b 2 (pc2 := 69) (L2 := [some (vR 7 0 0), some (vI (nI h)), some (vI (nI r)), some (vI md), some (vI what), some (vI lost), some (vI told), none]) (st2 := [vI told]) (m1 := m2) rfl ?_
      exact E _
    · refine an_t c1 ?_
      rw [if_pos c1]
      refine an_b 3 (pc2 := if ¬ what = (1 : Int32) then 65 else 50) (L2 := [some (vR 7 0 0), some (vI (nI h)), some (vI (nI r)), some (vI md), some (vI what), some (vI lost), some (vI told), none]) (st2 := []) (m1 := m2) rfl ?_
      by_cases c2 : what = (1 : Int32)
      · refine an_f (fun q => q c2) ?_
        rw [if_neg (fun q => q c2)]
        refine an_b 3 (pc2 := 56) (L2 := [some (vR 7 0 0), some (vI (nI h)), some (vI (nI r)), some (vI md), some (vI what), some (vI lost), some (vI told), none]) (st2 := [vI (nI 8), vI (nI 337), vR 7 0 0]) (m1 := m2) rfl ?_
        refine an_call (r_X5_sumFrom m2 337 8 (by decide) (by decide)) rfl rfl rfl rfl ?_
        refine an_b 3 (pc2 := 69) (L2 := [some (vR 7 0 0), some (vI (nI h)), some (vI (nI r)), some (vI md), some (vI what), some (vI lost), some (vI told), none]) (st2 := [vI (v_X5_sumFrom m2 337 8 - lost)]) (m1 := m2) rfl ?_
        exact E _
      · refine an_t c2 ?_
        rw [if_pos c2]
        refine an_b 1 (pc2 := 66) (L2 := [some (vR 7 0 0), some (vI (nI h)), some (vI (nI r)), some (vI md), some (vI what), some (vI lost), some (vI told), none]) (st2 := [vR 7 0 0]) (m1 := m2) rfl ?_
        refine an_call (r_X5_allLocks m2) rfl rfl rfl rfl ?_
        exact E _
  · refine an_f c ?_
    have ev : v_X5_askedThen m h r md what = -1 := by unfold v_X5_askedThen; rw [if_neg c]
    have ew : w_X5_askedThen m h r md = m := by unfold w_X5_askedThen; rw [if_neg c]
    rw [ev, ew]
    refine an_b 1 (pc2 := 9) (L2 := [some (vR 7 0 0), some (vI (nI h)), some (vI (nI r)), some (vI md), some (vI what), none, none, none]) (st2 := [vI (-1)]) (m1 := m) rfl ?_
    exact an_ret rfl rfl rfl rfl rfl
/-- d ticks more at most, from the k-th on, till the row burns -/
def bnz (r : Nat) : Nat → Nat → PM → Int32 × PM
  | 0, _, m => (-1, m)
  | d + 1, k, m => if (v_X5_tick m >>> (nI r &&& (31 : Int32))) &&& (1 : Int32) = 1 then (nI k, w_X5_tick m) else bnz r d (k + 1) (w_X5_tick m)
def v_X5_burnsNow (m : PM) (r : Nat) : Int32 := (bnz r 300 1 (w_X5_keep m)).1
def w_X5_burnsNow (m : PM) (r : Nat) : PM := w_X5_layBack (bnz r 300 1 (w_X5_keep m)).2
theorem r_X5_burnsNow (m : PM) (r : Nat) (hr : r < 12) (hq : QA (zz m)) : Rn MX5_burnsNow [vR 7 0 0, vI (nI r)] m (some (vI (v_X5_burnsNow m r))) (w_X5_burnsNow m r) := by
  refine rn_of [some (vR 7 0 0), some (vI (nI r)), none, none] rfl ?_
  refine an_b 1 (pc2 := 1) (L2 := [some (vR 7 0 0), some (vI (nI r)), none, none]) (st2 := [vR 7 0 0]) (m1 := m) rfl ?_
  refine an_call (r_X5_keep m) rfl rfl rfl rfl ?_
  have qk := qa_keep hq
  unfold v_X5_burnsNow w_X5_burnsNow
  generalize w_X5_keep m = mk at qk ⊢
  refine an_b 4 (pc2 := 8) (L2 := [some (vR 7 0 0), some (vI (nI r)), some (vI (-1)), some (vI (nI 1))]) (st2 := []) (m1 := mk) rfl ?_
  have fin : ∀ (x y : Int32) (m2 : PM), An MX5_burnsNow 44 [some (vR 7 0 0), some (vI (nI r)), some (vI x), some (vI y)] [] m2 (.inl (some (vI x))) (w_X5_layBack m2) := by
    intro x y m2
    refine an_b 1 (pc2 := 45) (L2 := [some (vR 7 0 0), some (vI (nI r)), some (vI x), some (vI y)]) (st2 := [vR 7 0 0]) (m1 := m2) rfl ?_
    refine an_call (r_X5_layBack m2) rfl rfl rfl rfl ?_
    refine an_b 1 (pc2 := 49) (L2 := [some (vR 7 0 0), some (vI (nI r)), some (vI x), some (vI y)]) (st2 := [vI x]) (m1 := w_X5_layBack m2) rfl ?_
    exact an_ret rfl rfl rfl rfl rfl
  have found : ∀ (k j : Nat) (m2 : PM), k ≤ 300 → An MX5_burnsNow 8 [some (vR 7 0 0), some (vI (nI r)), some (vI (nI k)), some (vI (nI j))] [] m2 (.inl (some (vI (nI k)))) (w_X5_layBack m2) := by
    intro k j m2 hk
    refine an_b 3 (pc2 := if (300 : Int32) < nI j then 44 else 15) (L2 := [some (vR 7 0 0), some (vI (nI r)), some (vI (nI k)), some (vI (nI j))]) (st2 := []) (m1 := m2) rfl ?_
    by_cases c : (300 : Int32) < nI j
    · exact an_t c (fin _ _ _)
    · refine an_f c ?_
      refine an_b 3 (pc2 := if ¬ nI k = (-1 : Int32) then 44 else 20) (L2 := [some (vR 7 0 0), some (vI (nI r)), some (vI (nI k)), some (vI (nI j))]) (st2 := []) (m1 := m2) rfl ?_
      exact an_t (nI_nm1 (by omega)) (fin _ _ _)
  suffices K : ∀ d k m2, k + d = 301 → QA (zz m2) → An MX5_burnsNow 8 [some (vR 7 0 0), some (vI (nI r)), some (vI (-1)), some (vI (nI k))] [] m2 (.inl (some (vI (bnz r d k m2).1))) (w_X5_layBack (bnz r d k m2).2) from K 300 1 mk rfl qk
  intro d
  induction d with
  | zero =>
    intro k m2 hk q2
    obtain rfl : k = 301 := by omega
    refine an_b 3 (pc2 := if (300 : Int32) < nI 301 then 44 else 15) (L2 := [some (vR 7 0 0), some (vI (nI r)), some (vI (-1)), some (vI (nI 301))]) (st2 := []) (m1 := m2) rfl ?_
    exact an_t (by decide) (fin _ _ _)
  | succ d ih =>
    intro k m2 hk q2
    refine an_b 3 (pc2 := if (300 : Int32) < nI k then 44 else 15) (L2 := [some (vR 7 0 0), some (vI (nI r)), some (vI (-1)), some (vI (nI k))]) (st2 := []) (m1 := m2) rfl ?_
    refine an_f (nI_nlt (a := 300) (b := k) (by omega) (by omega)) ?_
    refine an_b 4 (pc2 := 21) (L2 := [some (vR 7 0 0), some (vI (nI r)), some (vI (-1)), some (vI (nI k))]) (st2 := [vR 7 0 0]) (m1 := m2) rfl ?_
    refine an_call (r_X5_tick m2 q2) rfl rfl rfl rfl ?_
    refine an_b 6 (pc2 := if ¬ (v_X5_tick m2 >>> (nI r &&& (31 : Int32))) &&& (1 : Int32) = 1 then 36 else 32) (L2 := [some (vR 7 0 0), some (vI (nI r)), some (vI (-1)), some (vI (nI k))]) (st2 := []) (m1 := w_X5_tick m2) rfl ?_
    unfold bnz
    by_cases c : (v_X5_tick m2 >>> (nI r &&& (31 : Int32))) &&& (1 : Int32) = 1
    · refine an_f (fun q => q c) ?_
      rw [if_pos c]
      refine an_b 5 (pc2 := 8) (L2 := [some (vR 7 0 0), some (vI (nI r)), some (vI (nI k)), some (vI (nI k + 1))]) (st2 := []) (m1 := w_X5_tick m2) rfl ?_
      rw [nI_1]
      exact found k (k + 1) _ (by omega)
    · refine an_t c ?_
      rw [if_neg c]
      refine an_b 4 (pc2 := 8) (L2 := [some (vR 7 0 0), some (vI (nI r)), some (vI (-1)), some (vI (nI k + 1))]) (st2 := []) (m1 := w_X5_tick m2) rfl ?_
      rw [nI_1]
      exact ih (k + 1) _ (by omega) (qa_tick q2)
