/-! asks, releases -/
theorem qv_enz {z : Nat → Int32} {r h n pl : Nat} {md : Int32} (hr : r < 12) (hh : h < 8) (hq : QV z r n) (hn : n < 8) (hpl : pl ≤ n) : QV (enz z r h md pl n) r (n + 1) := by
  obtain ⟨h1, h2, h3⟩ := hq
  refine ⟨?_, by omega, fun q hq => ?_⟩
  · unfold enz; rw [if_pos rfl]
  · by_cases c1 : q = pl
    · subst c1
      refine ⟨h, hh, ?_⟩
      unfold enz
      rw [if_neg (by omega), if_neg (by omega), if_pos rfl]
    · by_cases c2 : pl < q
      · obtain ⟨h0, a, b⟩ := h3 (q - 1) (by omega)
        refine ⟨h0, a, ?_⟩
        unfold enz eqz
        rw [if_neg (by omega), if_neg (by omega), if_neg (by omega), if_pos (by omega), show 137 + 8 * r + q - 1 = 137 + 8 * r + (q - 1) by omega]
        exact b
      · obtain ⟨h0, a, b⟩ := h3 q (by omega)
        refine ⟨h0, a, ?_⟩
        unfold enz eqz
        rw [if_neg (by omega), if_neg (by omega), if_neg (by omega), if_neg (by omega), if_neg (by omega)]
        exact b
theorem qa_enz {z : Nat → Int32} {r h n pl : Nat} {md : Int32} (hr : r < 12) (hh : h < 8) (hq : QA z) (hv : QV z r n) (hn : n < 8) (hpl : pl ≤ n) : QA (enz z r h md pl n) := by
  refine qa_i fun r2 hr2 => ?_
  by_cases hc : r2 = r
  · subst hc; exact ⟨_, qv_enz hr hh hv hn hpl⟩
  · refine ⟨_, qv_cong hr2 (hq r2 hr2) ?_ fun q hq2 => ?_⟩
    · unfold enz eqz; rw [if_neg (by omega), if_neg (by omega), if_neg (by omega), if_neg (by omega), if_neg (by omega)]
    · have := (hq r2 hr2).2.1
      unfold enz eqz; rw [if_neg (by omega), if_neg (by omega), if_neg (by omega), if_neg (by omega), if_neg (by omega)]
def w_X5_enqueue (m : PM) (r h : Nat) (md : Int32) : PM := setz m (enz (zz m) r h md (plz (zz m) r h (qn m r)) (qn m r))
theorem rr_enqueue (m : PM) (r h : Nat) (md : Int32) (hr : r < 12) (hh : h < 8) (hq : QA (zz m)) (hn : qn m r < 8) : Rn MX5_enqueue [vR 7 0 0, vI (nI r), vI (nI h), vI md] m none (w_X5_enqueue m r h md) := r_X5_enqueue m r h (qn m r) md hr hh (hq r hr) hn
theorem qa_enqueue {m : PM} {r h : Nat} {md : Int32} (hr : r < 12) (hh : h < 8) (hq : QA (zz m)) (hn : qn m r < 8) : QA (zz (w_X5_enqueue m r h md)) := by
  unfold w_X5_enqueue
  rw [zz_setz]
  exact qa_enz hr hh hq (hq r hr) hn (plz_le _ _ _ _)
theorem loser_in {m : PM} {h : Nat} (hh : h < 8) (hi : ¬ v_X5_isInRing m (nI h) = 0) : ∃ l, l < 8 ∧ v_X5_loserFor m (nI h) = nI l := by
  have hb : (v_X5_waitsOver m (nI h) >>> (nI h &&& (31 : Int32))) &&& (1 : Int32) = 1 := by
    by_cases c : (v_X5_waitsOver m (nI h) >>> (nI h &&& (31 : Int32))) &&& (1 : Int32) = 1
    · exact c
    · exact absurd (by unfold v_X5_isInRing; rw [if_pos c]) hi
  have k := lp_inv (b_X5_loserFor_1 m (nI h)) 8 (fun j s => (s = -1 ∨ ∃ l, l < 8 ∧ s = nI l) ∧ (h < j → ∃ l, l < 8 ∧ s = nI l)) (fun j s hj hs => ⟨loserFor_i m (nI h) j s hj hs.1, fun hlt => ?_⟩) 8 0 (-1) rfl ⟨Or.inl rfl, fun q => absurd q (by omega)⟩
  · exact k.2 hh
  · by_cases c : h = j
    · subst c
      unfold b_X5_loserFor_1
      rw [if_pos hb, if_pos hb]
      by_cases c3 : s = -1
      · rw [if_pos c3]; exact ⟨h, hj, rfl⟩
      · rw [if_neg c3]
        rcases hs.1 with e | e
        · exact absurd e c3
        · split
          · exact e
          · exact ⟨h, hj, rfl⟩
    · have e := hs.2 (by omega)
      unfold b_X5_loserFor_1
      (repeat' split) <;> first | exact e | exact ⟨j, hj, rfl⟩
/-- the turns of a ring, d at most -/
def ring (h : Nat) : Nat → PM → PM
  | 0, m => m
  | d + 1, m => if v_X5_isInRing m (nI h) = 0 then m else ring h d (w_X5_lose m (v_X5_loserFor m (nI h)).toNatClampNeg)
def askA (m : PM) (h : Nat) : PM := wI m 8 0 0 (353 + h) (m.1 8 0 0 (353 + h) + 1)
def askC (m : PM) (h r : Nat) (md : Int32) : PM := w_X5_settle (w_X5_enqueue (askA m h) r h md) r
def askR (m : PM) (h r : Nat) (md : Int32) : PM := ring h 8 (askC m h r md)
def v_X5_asks (m : PM) (h r : Nat) (md : Int32) : Int32 := if v_X5_lockOf (askA m h) h r < md then (if v_X5_lockOf (askR m h r md) h r < md then (if v_X5_waits (askR m h r md) (nI h) = 0 then 2 else 1) else 0) else 0
def w_X5_asks (m : PM) (h r : Nat) (md : Int32) : PM := if v_X5_lockOf (askA m h) h r < md then askR m h r md else wI (askA m h) 8 0 0 (345 + h) ((askA m h).1 8 0 0 (345 + h) + 1)
theorem qa_askA {m : PM} {h : Nat} (hq : QA (zz m)) : QA (zz (askA m h)) := by
  unfold askA
  rw [zz_wI]
  exact qa_upd hq _ _ (Or.inr (by omega))
theorem qn_askA {m : PM} {h r : Nat} (hr : r < 12) : qn (askA m h) r = qn m r := by
  unfold qn askA
  rw [zz_wI]
  unfold upd
  rw [if_neg (by omega)]
theorem qa_askC {m : PM} {h r : Nat} {md : Int32} (hr : r < 12) (hh : h < 8) (hq : QA (zz m)) (hn : qn m r < 8) : QA (zz (askC m h r md)) := by
  unfold askC
  exact qa_settle hr (qa_enqueue hr hh (qa_askA hq) (by rw [qn_askA hr]; exact hn))
theorem qa_ring {h : Nat} (hh : h < 8) : ∀ (d : Nat) (m : PM), QA (zz m) → QA (zz (ring h d m)) := by
  intro d
  induction d with
  | zero => intro m hq; exact hq
  | succ d ih =>
    intro m hq
    unfold ring
    by_cases c : v_X5_isInRing m (nI h) = 0
    · rw [if_pos c]; exact hq
    · rw [if_neg c]
      obtain ⟨l, hl, e⟩ := loser_in hh c
      rw [e, nI_clamp (by omega)]
      exact ih _ (qa_lose hl hq)
theorem qa_asks {m : PM} {h r : Nat} {md : Int32} (hr : r < 12) (hh : h < 8) (hq : QA (zz m)) (hn : qn m r < 8) : QA (zz (w_X5_asks m h r md)) := by
  unfold w_X5_asks
  split
  · exact qa_ring hh _ _ (qa_askC hr hh hq hn)
  · rw [zz_wI]
    exact qa_upd (qa_askA hq) _ _ (Or.inr (by omega))
theorem r_X5_asks (m : PM) (h r : Nat) (md : Int32) (hh : h < 8) (hr : r < 12) (hq : QA (zz m)) (hn : qn m r < 8) (he : v_X5_lockOf (askA m h) h r < md → v_X5_isInRing (askR m h r md) (nI h) = 0) : Rn MX5_asks [vR 7 0 0, vI (nI h), vI (nI r), vI md] m (some (vI (v_X5_asks m h r md))) (w_X5_asks m h r md) := by
  refine rn_of [some (vR 7 0 0), some (vI (nI h)), some (vI (nI r)), some (vI md), none] rfl ?_
  refine an_b 6 (pc2 := 10) (L2 := [some (vR 7 0 0), some (vI (nI h)), some (vI (nI r)), some (vI md), none]) (st2 := [vI ((353 : Int32) + nI h), vR 8 0 0, vI ((353 : Int32) + nI h), vR 8 0 0]) (m1 := m) rfl ?_
  refine an_ald (353 + h) 361 rfl rfl (by simp only [ix_lit, nI_add]) (by omega) (by omega) ?_
  refine an_b 2 (pc2 := 13) (L2 := [some (vR 7 0 0), some (vI (nI h)), some (vI (nI r)), some (vI md), none]) (st2 := [vI (m.1 8 0 0 (353 + h) + 1), vI ((353 : Int32) + nI h), vR 8 0 0]) (m1 := m) rfl ?_
  refine an_ast (353 + h) 361 rfl rfl (by decide) (by simp only [ix_lit, nI_add]) (by omega) (by omega) ?_
  show An MX5_asks 14 [some (vR 7 0 0), some (vI (nI h)), some (vI (nI r)), some (vI md), none] [] (askA m h) _ _
  have qA : QA (zz (askA m h)) := qa_askA hq
  refine an_b 3 (pc2 := 17) (L2 := [some (vR 7 0 0), some (vI (nI h)), some (vI (nI r)), some (vI md), none]) (st2 := [vI (nI r), vI (nI h), vR 7 0 0]) (m1 := askA m h) rfl ?_
  refine an_call (r_X5_lockOf (askA m h) h r hh hr) rfl rfl rfl rfl ?_
  refine an_b 2 (pc2 := if v_X5_lockOf (askA m h) h r < md then 40 else 24) (L2 := [some (vR 7 0 0), some (vI (nI h)), some (vI (nI r)), some (vI md), none]) (st2 := []) (m1 := askA m h) rfl ?_
  by_cases c0 : v_X5_lockOf (askA m h) h r < md
  · refine an_t c0 ?_
    have hv : v_X5_asks m h r md = if v_X5_lockOf (askR m h r md) h r < md then (if v_X5_waits (askR m h r md) (nI h) = 0 then 2 else 1) else 0 := by unfold v_X5_asks; rw [if_pos c0]
    have hw : w_X5_asks m h r md = askR m h r md := by unfold w_X5_asks; rw [if_pos c0]
    rw [hv, hw]
    have qR : QA (zz (askR m h r md)) := qa_ring hh _ _ (qa_askC hr hh hq hn)
    refine an_b 4 (pc2 := 44) (L2 := [some (vR 7 0 0), some (vI (nI h)), some (vI (nI r)), some (vI md), none]) (st2 := [vI md, vI (nI h), vI (nI r), vR 7 0 0]) (m1 := askA m h) rfl ?_
    have n1 : qn (askA m h) r < 8 := by rw [qn_askA hr]; exact hn
    refine an_call (rr_enqueue (askA m h) r h md hr hh qA n1) rfl rfl rfl rfl ?_
    refine an_b 2 (pc2 := 49) (L2 := [some (vR 7 0 0), some (vI (nI h)), some (vI (nI r)), some (vI md), none]) (st2 := [vI (nI r), vR 7 0 0]) (m1 := w_X5_enqueue (askA m h) r h md) rfl ?_
    refine an_call (rr_settle _ r hr (qa_enqueue hr hh qA n1)) rfl rfl rfl rfl ?_
    generalize v_X5_settle (w_X5_enqueue (askA m h) r h md) r = x
    refine an_b 1 (pc2 := 54) (L2 := [some (vR 7 0 0), some (vI (nI h)), some (vI (nI r)), some (vI md), some (vI x)]) (st2 := []) (m1 := askC m h r md) rfl ?_
    have fin : An MX5_asks 74 [some (vR 7 0 0), some (vI (nI h)), some (vI (nI r)), some (vI md), some (vI x)] [] (askR m h r md) (.inl (some (vI (if v_X5_lockOf (askR m h r md) h r < md then (if v_X5_waits (askR m h r md) (nI h) = 0 then 2 else 1) else 0)))) (askR m h r md) := by
      refine an_b 3 (pc2 := 77) (L2 := [some (vR 7 0 0), some (vI (nI h)), some (vI (nI r)), some (vI md), some (vI x)]) (st2 := [vI (nI r), vI (nI h), vR 7 0 0]) (m1 := askR m h r md) rfl ?_
      refine an_call (r_X5_lockOf _ h r hh hr) rfl rfl rfl rfl ?_
      refine an_b 2 (pc2 := if v_X5_lockOf (askR m h r md) h r < md then 88 else 84) (L2 := [some (vR 7 0 0), some (vI (nI h)), some (vI (nI r)), some (vI md), some (vI x)]) (st2 := []) (m1 := askR m h r md) rfl ?_
      refine an_ifi (fun c1 => ?_) (fun c1 => ?_)
      · refine an_b 2 (pc2 := 90) (L2 := [some (vR 7 0 0), some (vI (nI h)), some (vI (nI r)), some (vI md), some (vI x)]) (st2 := [vI (nI h), vR 7 0 0]) (m1 := askR m h r md) rfl ?_
        refine an_call (r_X5_waits _ (nI h) (ql_of qR)) rfl rfl rfl rfl ?_
        refine an_b 1 (pc2 := if v_X5_waits (askR m h r md) (nI h) = 0 then 100 else 96) (L2 := [some (vR 7 0 0), some (vI (nI h)), some (vI (nI r)), some (vI md), some (vI x)]) (st2 := []) (m1 := askR m h r md) rfl ?_
        refine an_ifi (fun c2 => ?_) (fun c2 => ?_)
        · refine an_b 1 (pc2 := 101) (L2 := [some (vR 7 0 0), some (vI (nI h)), some (vI (nI r)), some (vI md), some (vI x)]) (st2 := [vI 2]) (m1 := askR m h r md) rfl ?_
          exact an_ret rfl rfl rfl rfl rfl
        · refine an_b 2 (pc2 := 101) (L2 := [some (vR 7 0 0), some (vI (nI h)), some (vI (nI r)), some (vI md), some (vI x)]) (st2 := [vI 1]) (m1 := askR m h r md) rfl ?_
          exact an_ret rfl rfl rfl rfl rfl
      · refine an_b 2 (pc2 := 101) (L2 := [some (vR 7 0 0), some (vI (nI h)), some (vI (nI r)), some (vI md), some (vI x)]) (st2 := [vI 0]) (m1 := askR m h r md) rfl ?_
        exact an_ret rfl rfl rfl rfl rfl
    suffices K : ∀ d m1, QA (zz m1) → ring h d m1 = askR m h r md → An MX5_asks 54 [some (vR 7 0 0), some (vI (nI h)), some (vI (nI r)), some (vI md), some (vI x)] [] m1 (.inl (some (vI (if v_X5_lockOf (askR m h r md) h r < md then (if v_X5_waits (askR m h r md) (nI h) = 0 then 2 else 1) else 0)))) (askR m h r md) from K 8 _ (qa_askC hr hh hq hn) rfl
    intro d
    induction d with
    | zero =>
      intro m1 q1 h1
      unfold ring at h1
      rw [h1]
      refine an_b 2 (pc2 := 56) (L2 := [some (vR 7 0 0), some (vI (nI h)), some (vI (nI r)), some (vI md), some (vI x)]) (st2 := [vI (nI h), vR 7 0 0]) (m1 := askR m h r md) rfl ?_
      refine an_call (r_X5_isInRing _ (nI h) (ql_of qR)) rfl rfl rfl rfl ?_
      refine an_b 1 (pc2 := if v_X5_isInRing (askR m h r md) (nI h) = 0 then 74 else 62) (L2 := [some (vR 7 0 0), some (vI (nI h)), some (vI (nI r)), some (vI md), some (vI x)]) (st2 := []) (m1 := askR m h r md) rfl ?_
      exact an_t (he c0) fin
    | succ d ih =>
      intro m1 q1 h1
      refine an_b 2 (pc2 := 56) (L2 := [some (vR 7 0 0), some (vI (nI h)), some (vI (nI r)), some (vI md), some (vI x)]) (st2 := [vI (nI h), vR 7 0 0]) (m1 := m1) rfl ?_
      refine an_call (r_X5_isInRing m1 (nI h) (ql_of q1)) rfl rfl rfl rfl ?_
      refine an_b 1 (pc2 := if v_X5_isInRing m1 (nI h) = 0 then 74 else 62) (L2 := [some (vR 7 0 0), some (vI (nI h)), some (vI (nI r)), some (vI md), some (vI x)]) (st2 := []) (m1 := m1) rfl ?_
      unfold ring at h1
      by_cases c : v_X5_isInRing m1 (nI h) = 0
      · refine an_t c ?_
        rw [if_pos c] at h1
        rw [h1]
        exact fin
      · refine an_f c ?_
        rw [if_neg c] at h1
        obtain ⟨l, hl, e⟩ := loser_in hh c
        rw [e, nI_clamp (by omega)] at h1
        refine an_b 3 (pc2 := 65) (L2 := [some (vR 7 0 0), some (vI (nI h)), some (vI (nI r)), some (vI md), some (vI x)]) (st2 := [vI (nI h), vR 7 0 0, vR 7 0 0]) (m1 := m1) rfl ?_
        refine an_call (r_X5_loserFor m1 (nI h) (ql_of q1)) rfl rfl rfl rfl ?_
        rw [e]
        refine an_call (r_X5_lose m1 l hl q1) rfl rfl rfl rfl ?_
        refine an_b 1 (pc2 := 54) (L2 := [some (vR 7 0 0), some (vI (nI h)), some (vI (nI r)), some (vI md), some (vI x)]) (st2 := []) (m1 := w_X5_lose m1 l) rfl ?_
        exact ih _ (qa_lose hl q1) h1
  · refine an_f c0 ?_
    have hv : v_X5_asks m h r md = 0 := by unfold v_X5_asks; rw [if_neg c0]
    have hw : w_X5_asks m h r md = wI (askA m h) 8 0 0 (345 + h) ((askA m h).1 8 0 0 (345 + h) + 1) := by unfold w_X5_asks; rw [if_neg c0]
    rw [hv, hw]
    refine an_b 6 (pc2 := 34) (L2 := [some (vR 7 0 0), some (vI (nI h)), some (vI (nI r)), some (vI md), none]) (st2 := [vI ((345 : Int32) + nI h), vR 8 0 0, vI ((345 : Int32) + nI h), vR 8 0 0]) (m1 := askA m h) rfl ?_
    refine an_ald (345 + h) 361 rfl rfl (by simp only [ix_lit, nI_add]) (by omega) (by omega) ?_
    refine an_b 2 (pc2 := 37) (L2 := [some (vR 7 0 0), some (vI (nI h)), some (vI (nI r)), some (vI md), none]) (st2 := [vI ((askA m h).1 8 0 0 (345 + h) + 1), vI ((345 : Int32) + nI h), vR 8 0 0]) (m1 := askA m h) rfl ?_
    refine an_ast (345 + h) 361 rfl rfl (by decide) (by simp only [ix_lit, nI_add]) (by omega) (by omega) ?_
    refine an_b 1 (pc2 := 39) (L2 := [some (vR 7 0 0), some (vI (nI h)), some (vI (nI r)), some (vI md), none]) (st2 := [vI 0]) (m1 := wI (askA m h) 8 0 0 (345 + h) ((askA m h).1 8 0 0 (345 + h) + 1)) rfl ?_
    exact an_ret rfl rfl rfl rfl rfl
def w_X5_releases (m : PM) (h r : Nat) : PM := w_X5_settle (w_X5_setLock m h r 0) r
def v_X5_releases (m : PM) (h r : Nat) : Int32 := v_X5_settle (w_X5_setLock m h r 0) r
theorem r_X5_releases (m : PM) (h r : Nat) (hh : h < 8) (hr : r < 12) (hq : QA (zz m)) : Rn MX5_releases [vR 7 0 0, vI (nI h), vI (nI r)] m (some (vI (v_X5_releases m h r))) (w_X5_releases m h r) := by
  refine rn_of [some (vR 7 0 0), some (vI (nI h)), some (vI (nI r))] rfl ?_
  refine an_b 4 (pc2 := 4) (L2 := [some (vR 7 0 0), some (vI (nI h)), some (vI (nI r))]) (st2 := [vI 0, vI (nI r), vI (nI h), vR 7 0 0]) (m1 := m) rfl ?_
  refine an_call (r_X5_setLock m h r 0 hh hr) rfl rfl rfl rfl ?_
  refine an_b 2 (pc2 := 9) (L2 := [some (vR 7 0 0), some (vI (nI h)), some (vI (nI r))]) (st2 := [vI (nI r), vR 7 0 0]) (m1 := w_X5_setLock m h r 0) rfl ?_
  refine an_call (rr_settle _ r hr (qa_setLock hh hr hq)) rfl rfl rfl rfl ?_
  exact an_ret rfl rfl rfl rfl rfl
theorem qa_releases {m : PM} {h r : Nat} (hh : h < 8) (hr : r < 12) (hq : QA (zz m)) : QA (zz (w_X5_releases m h r)) := qa_settle hr (qa_setLock hh hr hq)
