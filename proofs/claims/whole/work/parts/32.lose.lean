/-! every queue in order; settle, lose, asks -/
/-- every row's queue is made of hands -/
def QA (z : Nat → Int32) : Prop := ∀ r, r < 12 → QV z r (z (125 + r)).toNatClampNeg
def qn (m : PM) (r : Nat) : Nat := (zz m (125 + r)).toNatClampNeg
theorem ql_of {m : PM} (h : QA (zz m)) : QL m := fun r hr => (h r hr).2.1
theorem qv_n {z : Nat → Int32} {r n : Nat} (h : QV z r n) : (z (125 + r)).toNatClampNeg = n := by
  rw [h.1]; exact nI_clamp (by have := h.2.1; omega)
theorem qa_i {z : Nat → Int32} (h : ∀ r, r < 12 → ∃ n, QV z r n) : QA z := by
  intro r hr
  obtain ⟨n, hn⟩ := h r hr
  rw [qv_n hn]; exact hn
theorem qv_cong {z z2 : Nat → Int32} {r n : Nat} (hr : r < 12) (h : QV z r n) (e : z2 (125 + r) = z (125 + r)) (e2 : ∀ p, p < n → z2 (137 + 8 * r + p) = z (137 + 8 * r + p)) : QV z2 r n := by
  obtain ⟨h1, h2, h3⟩ := h
  refine ⟨by rw [e]; exact h1, h2, fun p hp => ?_⟩
  obtain ⟨h0, a, b⟩ := h3 p hp
  exact ⟨h0, a, by rw [e2 p hp]; exact b⟩
theorem qa_upd {z : Nat → Int32} (h : QA z) (i : Nat) (v : Int32) (hi : i < 125 ∨ 233 ≤ i) : QA (upd z i v) := by
  refine qa_i fun r hr => ⟨_, qv_cong hr (h r hr) ?_ fun p hp => ?_⟩
  · unfold upd; rw [if_neg (by omega)]
  · have := (h r hr).2.1
    unfold upd; rw [if_neg (by omega)]
theorem qv_uqz {z : Nat → Int32} {r p n : Nat} (hr : r < 12) (h : QV z r n) (hp : p < n) : QV (uqz z r p n (n - 1)) r (n - 1) := by
  obtain ⟨h1, h2, h3⟩ := h
  refine ⟨?_, by omega, fun q hq => ?_⟩
  · unfold uqz; rw [if_pos rfl]
  · by_cases hc : p ≤ q
    · obtain ⟨h0, a, b⟩ := h3 (q + 1) (by omega)
      refine ⟨h0, a, ?_⟩
      unfold uqz
      rw [if_neg (by omega), if_pos (by omega)]
      exact b
    · obtain ⟨h0, a, b⟩ := h3 q (by omega)
      refine ⟨h0, a, ?_⟩
      unfold uqz
      rw [if_neg (by omega), if_neg (by omega), if_neg (by omega)]
      exact b
theorem qv_uqzo {z : Nat → Int32} {r r2 p n n2 k : Nat} (hr : r < 12) (hr2 : r2 < 12) (hne : ¬ r2 = r) (h : QV z r2 n2) (hk : k ≤ 8) : QV (uqz z r p n k) r2 n2 := by
  refine qv_cong hr2 h ?_ fun q hq => ?_
  · unfold uqz; rw [if_neg (by omega), if_neg (by omega), if_neg (by omega)]
  · have := h.2.1
    unfold uqz; rw [if_neg (by omega), if_neg (by omega), if_neg (by omega)]
theorem qa_uqz {z : Nat → Int32} {r p n : Nat} (hr : r < 12) (h : QA z) (hn : QV z r n) (hp : p < n) : QA (uqz z r p n (n - 1)) := by
  refine qa_i fun r2 hr2 => ?_
  by_cases hc : r2 = r
  · subst hc; exact ⟨_, qv_uqz hr hn hp⟩
  · exact ⟨_, qv_uqzo hr hr2 hc (h r2 hr2) (by have := hn.2.1; omega)⟩
theorem qa_grz {z : Nat → Int32} {r p n h : Nat} (hr : r < 12) (hh : h < 8) (hq : QA z) (hn : QV z r n) (hp : p < n) : QA (grz z r p n h) := by
  unfold grz
  refine qa_uqz hr (qa_upd (qa_upd hq _ _ (Or.inl (by omega))) _ _ (Or.inr (by omega))) ?_ hp
  refine qv_cong hr hn ?_ fun q hq => ?_
  · unfold upd; rw [if_neg (by omega), if_neg (by omega)]
  · have := hn.2.1
    unfold upd; rw [if_neg (by omega), if_neg (by omega)]
theorem qa_stz {r : Nat} (hr : r < 12) : ∀ (n : Nat) (z : Nat → Int32) (c : Int32), QA z → QV z r n → QA (stz r n z c).2 := by
  intro n
  induction n with
  | zero => intro z c h _; exact h
  | succ n ih =>
    intro z c h hn
    unfold stz
    by_cases hc : clz z r (z (233 + 8 * r)) (z (137 + 8 * r)) = 0
    · rw [if_pos hc]
      obtain ⟨h0, hh, eh⟩ := hn.2.2 0 (by omega)
      have eh : z (137 + 8 * r) = nI h0 := eh
      have ec : (z (137 + 8 * r)).toNatClampNeg = h0 := by rw [eh]; exact nI_clamp (by omega)
      rw [ec]
      exact ih _ _ (qa_grz hr hh h hn (by omega)) (qv_grz hr hh hn)
    · rw [if_neg hc]; exact h
def v_X5_settle (m : PM) (r : Nat) : Int32 := (stz r (qn m r) (zz m) 0).1
def w_X5_settle (m : PM) (r : Nat) : PM := setz m (stz r (qn m r) (zz m) 0).2
theorem rr_settle (m : PM) (r : Nat) (hr : r < 12) (hq : QA (zz m)) : Rn MX5_settle [vR 7 0 0, vI (nI r)] m (some (vI (v_X5_settle m r))) (w_X5_settle m r) := r_X5_settle m r (qn m r) hr (hq r hr)
theorem qa_settle {m : PM} {r : Nat} (hr : r < 12) (hq : QA (zz m)) : QA (zz (w_X5_settle m r)) := by
  unfold w_X5_settle
  rw [zz_setz]
  exact qa_stz hr _ _ _ hq (hq r hr)
def w_X5_unqueue (m : PM) (r p : Nat) : PM := setz m (uqz (zz m) r p (qn m r) (qn m r - 1))
theorem qa_unq {m : PM} {r p : Nat} (hr : r < 12) (hp : p < qn m r) (hq : QA (zz m)) : QA (zz (w_X5_unqueue m r p)) := by
  unfold w_X5_unqueue
  rw [zz_setz]
  exact qa_uqz hr hq (hq r hr) hp
theorem rr_unqueue (m : PM) (r p : Nat) (hr : r < 12) (hp : p < qn m r) (hq : QA (zz m)) : Rn MX5_unqueue [vR 7 0 0, vI (nI r), vI (nI p)] m none (w_X5_unqueue m r p) := r_X5_unqueue m r p (qn m r) hr (hq r hr).1 hp (hq r hr).2.1
theorem zz_wI (m : PM) (i : Nat) (v : Int32) : zz (wI m 8 0 0 i v) = upd (zz m) i v := by rw [wI_setz, zz_setz]
theorem zz_setLock (m : PM) (h r : Nat) (v : Int32) : zz (w_X5_setLock m h r v) = upd (zz m) (5 + 12 * h + r) v := zz_wI _ _ _
theorem qa_setLock {m : PM} {h r : Nat} {v : Int32} (hh : h < 8) (hr : r < 12) (hq : QA (zz m)) : QA (zz (w_X5_setLock m h r v)) := by
  rw [zz_setLock]
  exact qa_upd hq _ _ (Or.inl (by omega))
theorem qn_setLock {m : PM} {h r r2 : Nat} {v : Int32} (hh : h < 8) (hr : r < 12) : qn (w_X5_setLock m h r v) r2 = qn m r2 := by
  unfold qn
  rw [zz_setLock]
  unfold upd
  rw [if_neg (by omega)]
/-- one row of a losing hand -/
def b_X5_lose_1 (m : PM) (h : Nat) (j : Nat) (s : Int32 × PM) : Int32 × PM := ((if 0 < v_X5_lockOf s.2 h j then (1 : Int32) <<< (nI j &&& (31 : Int32)) else if v_X5_placeIn s.2 (nI h) j = (-1 : Int32) then 0 else (1 : Int32) <<< (nI j &&& (31 : Int32))) ||| s.1, if v_X5_placeIn s.2 (nI h) j = (-1 : Int32) then w_X5_setLock s.2 h j 0 else w_X5_unqueue (w_X5_setLock s.2 h j 0) j (plcN s.2 (nI h) j))
def b_X5_lose_2 (rows : Int32) (j : Nat) (s : PM) : PM := if ¬ (rows >>> (nI j &&& (31 : Int32))) &&& (1 : Int32) = 1 then s else w_X5_settle s j
def lose_1 (m : PM) (h : Nat) : Int32 × PM := lp (b_X5_lose_1 m h) 12 0 (0, m)
def lose_2 (m : PM) (h : Nat) : PM := wI (lose_1 m h).2 8 0 0 (337 + h) ((lose_1 m h).2.1 8 0 0 (337 + h) + 1)
def w_X5_lose (m : PM) (h : Nat) : PM := lp (b_X5_lose_2 (lose_1 m h).1) 12 0 (lose_2 m h)
theorem qa_lose_1 {m : PM} {h : Nat} (hh : h < 8) {j : Nat} {s : Int32 × PM} (hj : j < 12) (hs : QA (zz s.2)) : QA (zz (b_X5_lose_1 m h j s).2) := by
  unfold b_X5_lose_1
  dsimp only
  by_cases c : v_X5_placeIn s.2 (nI h) j = -1
  · rw [if_pos c]; exact qa_setLock hh hj hs
  · rw [if_neg c]
    refine qa_unq hj ?_ (qa_setLock hh hj hs)
    rw [qn_setLock hh hj]
    exact (plc_N (ql_of hs) hj c).2.2.1
theorem qa_lose_2 {rows : Int32} {j : Nat} {s : PM} (hj : j < 12) (hs : QA (zz s)) : QA (zz (b_X5_lose_2 rows j s)) := by
  unfold b_X5_lose_2
  split
  · exact hs
  · exact qa_settle hj hs
theorem qa_l1 {m : PM} {h : Nat} (hh : h < 8) (hq : QA (zz m)) : QA (zz (lose_1 m h).2) := lp_inv (b_X5_lose_1 m h) 12 (fun _ s => QA (zz s.2)) (fun j s hj hs => qa_lose_1 hh hj hs) 12 0 (0, m) rfl hq
theorem qa_l2 {m : PM} {h : Nat} (hh : h < 8) (hq : QA (zz m)) : QA (zz (lose_2 m h)) := by
  unfold lose_2
  rw [zz_wI]
  exact qa_upd (qa_l1 hh hq) _ _ (Or.inr (by omega))
theorem qa_lose {m : PM} {h : Nat} (hh : h < 8) (hq : QA (zz m)) : QA (zz (w_X5_lose m h)) := lp_inv (b_X5_lose_2 (lose_1 m h).1) 12 (fun _ s => QA (zz s)) (fun j s hj hs => qa_lose_2 hj hs) 12 0 _ rfl (qa_l2 hh hq)
theorem r_X5_lose (m : PM) (h : Nat) (hh : h < 8) (hq : QA (zz m)) : Rn MX5_lose [vR 7 0 0, vI (nI h)] m none (w_X5_lose m h) := by
  refine rn_of [some (vR 7 0 0), some (vI (nI h)), none, none, none] rfl ?_
  refine an_b 4 (pc2 := 4) (L2 := [some (vR 7 0 0), some (vI (nI h)), some (vI 0), some (vI 0), none]) (st2 := []) (m1 := m) rfl ?_
  refine re_lpi (σ := Int32 × PM) (b_X5_lose_1 m h) (fun _ s => QA (zz s.2)) (fun j s => (4, [some (vR 7 0 0), some (vI (nI h)), some (vI s.1), some (vI (nI j)), none], [], s.2)) 12 (fun s => (69, [some (vR 7 0 0), some (vI (nI h)), some (vI s.1), some (vI (nI 12)), none], [], s.2)) (fun j s hj hs => qa_lose_1 hh hj hs) (fun j s hj hs v9 m9 K => ?_) (fun s hs v9 m9 K => ?_) 12 0 (0, m) rfl hq _ _ ?_
  · show An MX5_lose 4 [some (vR 7 0 0), some (vI (nI h)), some (vI s.1), some (vI (nI j)), none] [] s.2 v9 m9
    have K : An MX5_lose 4 [some (vR 7 0 0), some (vI (nI h)), some (vI (b_X5_lose_1 m h j s).1), some (vI (nI (j + 1))), none] [] (b_X5_lose_1 m h j s).2 v9 m9 := K
    refine an_b 3 (pc2 := if (12 : Int32) ≤ nI j then 69 else 10) (L2 := [some (vR 7 0 0), some (vI (nI h)), some (vI s.1), some (vI (nI j)), none]) (st2 := []) (m1 := s.2) rfl ?_
    refine an_f (nI_ge (a := j) (b := 12) (by omega) (by omega)) ?_
    refine an_b 3 (pc2 := 13) (L2 := [some (vR 7 0 0), some (vI (nI h)), some (vI s.1), some (vI (nI j)), none]) (st2 := [vI (nI j), vI (nI h), vR 7 0 0]) (m1 := s.2) rfl ?_
    refine an_call (r_X5_placeIn s.2 (nI h) j hj (ql_of hs)) rfl rfl rfl rfl ?_
    refine an_b 5 (pc2 := 22) (L2 := [some (vR 7 0 0), some (vI (nI h)), some (vI s.1), some (vI (nI j)), some (vI (v_X5_placeIn s.2 (nI h) j))]) (st2 := [vI (nI j), vI (nI h), vR 7 0 0, vI s.1]) (m1 := s.2) rfl ?_
    refine an_call (r_X5_lockOf s.2 h j hh hj) rfl rfl rfl rfl ?_
    refine an_b 1 (pc2 := if 0 < v_X5_lockOf s.2 h j then 34 else 28) (L2 := [some (vR 7 0 0), some (vI (nI h)), some (vI s.1), some (vI (nI j)), some (vI (v_X5_placeIn s.2 (nI h) j))]) (st2 := [vI s.1]) (m1 := s.2) rfl ?_
    -- the row's bit
    have B : ∀ x : Int32, (b_X5_lose_1 m h j s).1 = (x ||| s.1) → An MX5_lose 41 [some (vR 7 0 0), some (vI (nI h)), some (vI s.1), some (vI (nI j)), some (vI (v_X5_placeIn s.2 (nI h) j))] [vI x, vI s.1] s.2 v9 m9 := by
      intro x hx
      have hx2 : (b_X5_lose_1 m h j s).1 = s.1 ||| x := by rw [hx, Int32.or_comm]
      refine an_b 6 (pc2 := 47) (L2 := [some (vR 7 0 0), some (vI (nI h)), some (vI (s.1 ||| x)), some (vI (nI j)), some (vI (v_X5_placeIn s.2 (nI h) j))]) (st2 := [vI 0, vI (nI j), vI (nI h), vR 7 0 0]) (m1 := s.2) rfl ?_
      refine an_call (r_X5_setLock s.2 h j 0 hh hj) rfl rfl rfl rfl ?_
      refine an_b 3 (pc2 := if v_X5_placeIn s.2 (nI h) j = (-1 : Int32) then 63 else 56) (L2 := [some (vR 7 0 0), some (vI (nI h)), some (vI (s.1 ||| x)), some (vI (nI j)), some (vI (v_X5_placeIn s.2 (nI h) j))]) (st2 := []) (m1 := w_X5_setLock s.2 h j 0) rfl ?_
      have E : ∀ m3, (b_X5_lose_1 m h j s).2 = m3 → An MX5_lose 63 [some (vR 7 0 0), some (vI (nI h)), some (vI (s.1 ||| x)), some (vI (nI j)), some (vI (v_X5_placeIn s.2 (nI h) j))] [] m3 v9 m9 := by
        intro m3 h3
        refine an_b 2 (pc2 := 4) (L2 := [some (vR 7 0 0), some (vI (nI h)), some (vI (s.1 ||| x)), some (vI (nI j + 1)), some (vI (v_X5_placeIn s.2 (nI h) j))]) (st2 := []) (m1 := m3) rfl ?_
        rw [nI_1, ← hx2, ← h3]
        exact an_weak (L := [some (vR 7 0 0), some (vI (nI h)), some (vI (b_X5_lose_1 m h j s).1), some (vI (nI (j + 1))), none]) (⟨rfl, rfl, rfl, rfl, trivial⟩) K
      by_cases c : v_X5_placeIn s.2 (nI h) j = -1
      · refine an_t c (E _ ?_)
        unfold b_X5_lose_1; dsimp only; rw [if_pos c]
      · refine an_f c ?_
        have pn := plc_N (ql_of hs) hj c
        refine an_b 3 (pc2 := 60) (L2 := [some (vR 7 0 0), some (vI (nI h)), some (vI (s.1 ||| x)), some (vI (nI j)), some (vI (v_X5_placeIn s.2 (nI h) j))]) (st2 := [vI (v_X5_placeIn s.2 (nI h) j), vI (nI j), vR 7 0 0]) (m1 := w_X5_setLock s.2 h j 0) rfl ?_
        have E2 := E _ (show (b_X5_lose_1 m h j s).2 = w_X5_unqueue (w_X5_setLock s.2 h j 0) j (plcN s.2 (nI h) j) by unfold b_X5_lose_1; dsimp only; rw [if_neg c])
        rw [pn.1] at E2 ⊢
        refine an_call (rr_unqueue (w_X5_setLock s.2 h j 0) j (plcN s.2 (nI h) j) hj (by rw [qn_setLock hh hj]; exact pn.2.2.1) (qa_setLock hh hj hs)) rfl rfl rfl rfl ?_
        exact E2
    have yes : (b_X5_lose_1 m h j s).1 = ((1 : Int32) <<< (nI j &&& (31 : Int32))) ||| s.1 → An MX5_lose 34 [some (vR 7 0 0), some (vI (nI h)), some (vI s.1), some (vI (nI j)), some (vI (v_X5_placeIn s.2 (nI h) j))] [vI s.1] s.2 v9 m9 := by
      intro hx
      refine an_b 4 (pc2 := 41) (L2 := [some (vR 7 0 0), some (vI (nI h)), some (vI s.1), some (vI (nI j)), some (vI (v_X5_placeIn s.2 (nI h) j))]) (st2 := [vI ((1 : Int32) <<< (nI j &&& (31 : Int32))), vI s.1]) (m1 := s.2) rfl ?_
      exact B _ hx
    by_cases c1 : 0 < v_X5_lockOf s.2 h j
    · refine an_t c1 (yes ?_)
      unfold b_X5_lose_1; dsimp only; rw [if_pos c1]
    · refine an_f c1 ?_
      refine an_b 3 (pc2 := if v_X5_placeIn s.2 (nI h) j = (-1 : Int32) then 40 else 34) (L2 := [some (vR 7 0 0), some (vI (nI h)), some (vI s.1), some (vI (nI j)), some (vI (v_X5_placeIn s.2 (nI h) j))]) (st2 := [vI s.1]) (m1 := s.2) rfl ?_
      by_cases c2 : v_X5_placeIn s.2 (nI h) j = -1
      · refine an_t c2 ?_
        refine an_b 1 (pc2 := 41) (L2 := [some (vR 7 0 0), some (vI (nI h)), some (vI s.1), some (vI (nI j)), some (vI (v_X5_placeIn s.2 (nI h) j))]) (st2 := [vI 0, vI s.1]) (m1 := s.2) rfl ?_
        refine B _ ?_
        unfold b_X5_lose_1; dsimp only; rw [if_neg c1, if_pos c2]
      · refine an_f c2 (yes ?_)
        unfold b_X5_lose_1; dsimp only; rw [if_neg c1, if_neg c2]
  · show An MX5_lose 4 [some (vR 7 0 0), some (vI (nI h)), some (vI s.1), some (vI (nI 12)), none] [] s.2 v9 m9
    refine an_b 3 (pc2 := if (12 : Int32) ≤ nI 12 then 69 else 10) (L2 := [some (vR 7 0 0), some (vI (nI h)), some (vI s.1), some (vI (nI 12)), none]) (st2 := []) (m1 := s.2) rfl ?_
    exact an_t (by decide) K
  show An MX5_lose 69 [some (vR 7 0 0), some (vI (nI h)), some (vI (lose_1 m h).1), some (vI (nI 12)), none] [] (lose_1 m h).2 _ _
  refine an_b 6 (pc2 := 79) (L2 := [some (vR 7 0 0), some (vI (nI h)), some (vI (lose_1 m h).1), some (vI (nI 12)), none]) (st2 := [vI ((337 : Int32) + nI h), vR 8 0 0, vI ((337 : Int32) + nI h), vR 8 0 0]) (m1 := (lose_1 m h).2) rfl ?_
  refine an_ald (337 + h) 361 rfl rfl (by simp only [ix_lit, nI_add]) (by omega) (by omega) ?_
  refine an_b 2 (pc2 := 82) (L2 := [some (vR 7 0 0), some (vI (nI h)), some (vI (lose_1 m h).1), some (vI (nI 12)), none]) (st2 := [vI ((lose_1 m h).2.1 8 0 0 (337 + h) + 1), vI ((337 : Int32) + nI h), vR 8 0 0]) (m1 := (lose_1 m h).2) rfl ?_
  refine an_ast (337 + h) 361 rfl rfl (by decide) (by simp only [ix_lit, nI_add]) (by omega) (by omega) ?_
  show An MX5_lose 83 [some (vR 7 0 0), some (vI (nI h)), some (vI (lose_1 m h).1), some (vI (nI 12)), none] [] (lose_2 m h) _ _
  unfold w_X5_lose
  generalize (lose_1 m h).1 = rows
  have q2 := qa_l2 hh hq
  refine an_b 2 (pc2 := 85) (L2 := [some (vR 7 0 0), some (vI (nI h)), some (vI rows), some (vI 0), none]) (st2 := []) (m1 := lose_2 m h) rfl ?_
  refine re_lpi (σ := PM) (b_X5_lose_2 rows) (fun _ s => QA (zz s)) (fun j s => (85, [some (vR 7 0 0), some (vI (nI h)), some (vI rows), some (vI (nI j)), none], [], s)) 12 (fun s => (117, [some (vR 7 0 0), some (vI (nI h)), some (vI rows), some (vI (nI 12)), none], [], s)) (fun j s hj hs => qa_lose_2 hj hs) (fun j s hj hs v9 m9 K => ?_) (fun s hs v9 m9 K => ?_) 12 0 (lose_2 m h) rfl q2 _ _ ?_
  · show An MX5_lose 85 [some (vR 7 0 0), some (vI (nI h)), some (vI rows), some (vI (nI j)), none] [] s v9 m9
    have K : An MX5_lose 85 [some (vR 7 0 0), some (vI (nI h)), some (vI rows), some (vI (nI (j + 1))), none] [] (b_X5_lose_2 rows j s) v9 m9 := K
    refine an_b 3 (pc2 := if (12 : Int32) ≤ nI j then 117 else 91) (L2 := [some (vR 7 0 0), some (vI (nI h)), some (vI rows), some (vI (nI j)), none]) (st2 := []) (m1 := s) rfl ?_
    refine an_f (nI_ge (a := j) (b := 12) (by omega) (by omega)) ?_
    refine an_b 7 (pc2 := if ¬ (rows >>> (nI j &&& (31 : Int32))) &&& (1 : Int32) = 1 then 108 else 100) (L2 := [some (vR 7 0 0), some (vI (nI h)), some (vI rows), some (vI (nI j)), none]) (st2 := []) (m1 := s) rfl ?_
    have E : ∀ (x : Int32) (m3 : PM), b_X5_lose_2 rows j s = m3 → An MX5_lose 109 [some (vR 7 0 0), some (vI (nI h)), some (vI rows), some (vI (nI j)), none] [vI x] m3 v9 m9 := by
      intro x m3 h3
      refine an_b 3 (pc2 := 85) (L2 := [some (vR 7 0 0), some (vI (nI h)), some (vI rows), some (vI (nI j + 1)), some (vI x)]) (st2 := []) (m1 := m3) rfl ?_
      rw [nI_1, ← h3]
      exact an_weak (L := [some (vR 7 0 0), some (vI (nI h)), some (vI rows), some (vI (nI (j + 1))), none]) (⟨rfl, rfl, rfl, rfl, trivial⟩) K
    by_cases c : (rows >>> (nI j &&& (31 : Int32))) &&& (1 : Int32) = 1
    · refine an_f (fun q => q c) ?_
      refine an_b 2 (pc2 := 102) (L2 := [some (vR 7 0 0), some (vI (nI h)), some (vI rows), some (vI (nI j)), none]) (st2 := [vI (nI j), vR 7 0 0]) (m1 := s) rfl ?_
      refine an_call (rr_settle s j hj hs) rfl rfl rfl rfl ?_
      refine an_b 1 (pc2 := 109) (L2 := [some (vR 7 0 0), some (vI (nI h)), some (vI rows), some (vI (nI j)), none]) (st2 := [vI (v_X5_settle s j)]) (m1 := w_X5_settle s j) rfl ?_
      refine E _ _ ?_
      unfold b_X5_lose_2; rw [if_neg (fun q => q c)]
    · refine an_t c ?_
      refine an_b 1 (pc2 := 109) (L2 := [some (vR 7 0 0), some (vI (nI h)), some (vI rows), some (vI (nI j)), none]) (st2 := [vI 0]) (m1 := s) rfl ?_
      refine E _ _ ?_
      unfold b_X5_lose_2; rw [if_pos c]
  · show An MX5_lose 85 [some (vR 7 0 0), some (vI (nI h)), some (vI rows), some (vI (nI 12)), none] [] s v9 m9
    refine an_b 3 (pc2 := if (12 : Int32) ≤ nI 12 then 117 else 91) (L2 := [some (vR 7 0 0), some (vI (nI h)), some (vI rows), some (vI (nI 12)), none]) (st2 := []) (m1 := s) rfl ?_
    exact an_t (by decide) K
  show An MX5_lose 117 [some (vR 7 0 0), some (vI (nI h)), some (vI rows), some (vI (nI 12)), none] [] (lp (b_X5_lose_2 rows) 12 0 (lose_2 m h)) _ _
  exact an_ret rfl rfl rfl rfl rfl
