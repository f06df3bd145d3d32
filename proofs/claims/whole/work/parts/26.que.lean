/-! the model's row of numbers, and its queues -/
def zz (m : PM) (i : Nat) : Int32 := m.1 8 0 0 i
def setz (m : PM) (f : Nat → Int32) : PM := (fun t k g i => if t = 8 ∧ k = 0 ∧ g = 0 then f i else m.1 t k g i, m.2)
theorem zz_setz (m : PM) (f : Nat → Int32) : zz (setz m f) = f := by
  funext i
  unfold zz setz
  dsimp only
  rw [if_pos ⟨rfl, rfl, rfl⟩]
theorem zs (m : PM) (f : Nat → Int32) (i : Nat) : (setz m f).1 8 0 0 i = f i := congrFun (zz_setz m f) i
theorem setz_setz (m : PM) (f f2 : Nat → Int32) : setz (setz m f) f2 = setz m f2 := by
  unfold setz
  congr 1
  funext t k g i
  dsimp only
  by_cases h : t = 8 ∧ k = 0 ∧ g = 0
  · rw [if_pos h, if_pos h]
  · rw [if_neg h, if_neg h, if_neg h]
theorem setz_zz (m : PM) : setz m (zz m) = m := by
  obtain ⟨a, b⟩ := m
  unfold setz zz
  congr 1
  funext t k g i
  dsimp only
  by_cases h : t = 8 ∧ k = 0 ∧ g = 0
  · rw [if_pos h]; obtain ⟨rfl, rfl, rfl⟩ := h; rfl
  · rw [if_neg h]
theorem wI_setz (m : PM) (i : Nat) (v : Int32) : wI m 8 0 0 i v = setz m (upd (zz m) i v) := by
  unfold wI setz zz upd
  congr 1
  funext t k g j
  by_cases h : t = 8 ∧ k = 0 ∧ g = 0
  · obtain ⟨rfl, rfl, rfl⟩ := h
    by_cases hj : j = i
    · rw [if_pos ⟨rfl, rfl, rfl, hj⟩, if_pos ⟨rfl, rfl, rfl⟩, if_pos hj]
    · rw [if_neg (fun q => hj q.2.2.2), if_pos ⟨rfl, rfl, rfl⟩, if_neg hj]
  · rw [if_neg (fun q => h ⟨q.1, q.2.1, q.2.2.1⟩), if_neg h]
theorem wI_setz2 (m : PM) (f : Nat → Int32) (i : Nat) (v : Int32) : wI (setz m f) 8 0 0 i v = setz m (upd f i v) := by
  rw [wI_setz, zz_setz, setz_setz]
/-- the queue of row r without its place p, as far as place k is moved; n were in it -/
def uqz (z : Nat → Int32) (r p n k : Nat) (i : Nat) : Int32 := if i = 125 + r then nI (n - 1) else if 137 + 8 * r + p ≤ i ∧ i < 137 + 8 * r + k then z (i + 1) else if 233 + 8 * r + p ≤ i ∧ i < 233 + 8 * r + k then z (i + 1) else z i
theorem uqz_0 (z : Nat → Int32) (r p n : Nat) : uqz z r p n p = upd z (125 + r) (nI (n - 1)) := by
  funext i
  unfold uqz upd
  by_cases h : i = 125 + r
  · rw [if_pos h, if_pos h]
  · rw [if_neg h, if_neg h, if_neg (by omega), if_neg (by omega)]
theorem uqz_s (z : Nat → Int32) (r p n k : Nat) (hr : r < 12) (hp : p ≤ k) (hk : k < 7) : upd (upd (uqz z r p n k) (137 + 8 * r + k) (z (137 + 8 * r + (k + 1)))) (233 + 8 * r + k) (z (233 + 8 * r + (k + 1))) = uqz z r p n (k + 1) := by
  funext i
  unfold uqz upd
  dsimp only
  (repeat' split) <;> first | rfl | (exfalso; omega) | (congr 1; omega)
theorem r_X5_unqueue (m : PM) (r p n : Nat) (hr : r < 12) (hn : zz m (125 + r) = nI n) (hp : p < n) (h8 : n ≤ 8) : Rn MX5_unqueue [vR 7 0 0, vI (nI r), vI (nI p)] m none (setz m (uqz (zz m) r p n (n - 1))) := by
  refine rn_of [some (vR 7 0 0), some (vI (nI r)), some (vI (nI p)), none] rfl ?_
  refine an_b 6 (pc2 := 9) (L2 := [some (vR 7 0 0), some (vI (nI r)), some (vI (nI p)), none]) (st2 := [vI ((125 : Int32) + nI r), vR 8 0 0, vI ((125 : Int32) + nI r), vR 8 0 0]) (m1 := m) rfl ?_
  refine an_ald (125 + r) 361 rfl rfl (by simp only [ix_lit, nI_add]) (by omega) (by omega) ?_
  refine an_b 2 (pc2 := 12) (L2 := [some (vR 7 0 0), some (vI (nI r)), some (vI (nI p)), none]) (st2 := [vI (zz m (125 + r) - 1), vI ((125 : Int32) + nI r), vR 8 0 0]) (m1 := m) rfl ?_
  refine an_ast (125 + r) 361 rfl rfl (by decide) (by simp only [ix_lit, nI_add]) (by omega) (by omega) ?_
  have e1 : zz m (125 + r) - 1 = nI (n - 1) := by
    rw [hn]
    have e2 : n = n - 1 + 1 := by omega
    rw [e2, nI_pred]
    congr 1
  rw [e1, wI_setz, ← uqz_0 (zz m) r p n]
  refine an_b 2 (pc2 := 15) (L2 := [some (vR 7 0 0), some (vI (nI r)), some (vI (nI p)), some (vI (nI p))]) (st2 := []) (m1 := setz m (uqz (zz m) r p n p)) rfl ?_
  suffices K : ∀ d k, p ≤ k → k + d = n - 1 → An MX5_unqueue 15 [some (vR 7 0 0), some (vI (nI r)), some (vI (nI p)), some (vI (nI k))] [] (setz m (uqz (zz m) r p n k)) (.inl none) (setz m (uqz (zz m) r p n (n - 1))) from K (n - 1 - p) p (Nat.le_refl _) (by omega)
  intro d
  induction d with
  | zero =>
    intro k hk hd
    obtain rfl : k = n - 1 := by omega
    refine an_b 6 (pc2 := 24) (L2 := [some (vR 7 0 0), some (vI (nI r)), some (vI (nI p)), some (vI (nI (n - 1)))]) (st2 := [vI ((125 : Int32) + nI r), vR 8 0 0, vI (nI (n - 1))]) (m1 := setz m (uqz (zz m) r p n (n - 1))) rfl ?_
    refine an_ald (125 + r) 361 rfl rfl (by simp only [ix_lit, nI_add]) (by omega) (by omega) ?_
    have e3 : (setz m (uqz (zz m) r p n (n - 1))).1 8 0 0 (125 + r) = nI (n - 1) := by
      rw [zs]
      unfold uqz
      rw [if_pos rfl]
    rw [e3]
    refine an_b 1 (pc2 := if nI (n - 1) ≤ nI (n - 1) then 80 else 28) (L2 := [some (vR 7 0 0), some (vI (nI r)), some (vI (nI p)), some (vI (nI (n - 1)))]) (st2 := []) (m1 := setz m (uqz (zz m) r p n (n - 1))) rfl ?_
    refine an_t (nI_le (Nat.le_refl _) (by omega)) ?_
    exact an_ret rfl rfl rfl rfl rfl
  | succ d ih =>
    intro k hk hd
    refine an_b 6 (pc2 := 24) (L2 := [some (vR 7 0 0), some (vI (nI r)), some (vI (nI p)), some (vI (nI k))]) (st2 := [vI ((125 : Int32) + nI r), vR 8 0 0, vI (nI k)]) (m1 := setz m (uqz (zz m) r p n k)) rfl ?_
    refine an_ald (125 + r) 361 rfl rfl (by simp only [ix_lit, nI_add]) (by omega) (by omega) ?_
    have hz : ∀ i, (setz m (uqz (zz m) r p n k)).1 8 0 0 i = uqz (zz m) r p n k i := fun i => congrFun (zz_setz m (uqz (zz m) r p n k)) i
    have e3 : (setz m (uqz (zz m) r p n k)).1 8 0 0 (125 + r) = nI (n - 1) := by
      rw [hz]
      unfold uqz
      rw [if_pos rfl]
    rw [e3]
    refine an_b 1 (pc2 := if nI (n - 1) ≤ nI k then 80 else 28) (L2 := [some (vR 7 0 0), some (vI (nI r)), some (vI (nI p)), some (vI (nI k))]) (st2 := []) (m1 := setz m (uqz (zz m) r p n k)) rfl ?_
    refine an_f (nI_ge (by omega) (by omega)) ?_
    refine an_b 14 (pc2 := 47) (L2 := [some (vR 7 0 0), some (vI (nI r)), some (vI (nI p)), some (vI (nI k))]) (st2 := [vI (nI k + 1), vI (nI r), vR 7 0 0, vI ((137 : Int32) + (8 : Int32) * nI r + nI k), vR 8 0 0]) (m1 := setz m (uqz (zz m) r p n k)) rfl ?_
    rw [nI_1]
    refine an_call (r_X5_whoAt _ r (k + 1) hr (by omega)) rfl rfl rfl rfl ?_
    have e4 : v_X5_whoAt (setz m (uqz (zz m) r p n k)) r (k + 1) = zz m (137 + 8 * r + (k + 1)) := by
      unfold v_X5_whoAt
      rw [hz]
      unfold uqz
      rw [if_neg (by omega), if_neg (by omega), if_neg (by omega)]
    rw [e4]
    refine an_ast (137 + 8 * r + k) 361 rfl rfl (by decide) (by simp only [ix_lit, pk_mul, nI_add]) (by omega) (by omega) ?_
    rw [wI_setz2]
    refine an_b 14 (pc2 := 70) (L2 := [some (vR 7 0 0), some (vI (nI r)), some (vI (nI p)), some (vI (nI k))]) (st2 := [vI (nI k + 1), vI (nI r), vR 7 0 0, vI ((233 : Int32) + (8 : Int32) * nI r + nI k), vR 8 0 0]) (m1 := setz m (upd (uqz (zz m) r p n k) (137 + 8 * r + k) (zz m (137 + 8 * r + (k + 1))))) rfl ?_
    rw [nI_1]
    refine an_call (r_X5_modeAt _ r (k + 1) hr (by omega)) rfl rfl rfl rfl ?_
    have e5 : v_X5_modeAt (setz m (upd (uqz (zz m) r p n k) (137 + 8 * r + k) (zz m (137 + 8 * r + (k + 1))))) r (k + 1) = zz m (233 + 8 * r + (k + 1)) := by
      unfold v_X5_modeAt
      show zz (setz m _) _ = _
      rw [zz_setz]
      unfold upd uqz
      rw [if_neg (by omega), if_neg (by omega), if_neg (by omega), if_neg (by omega)]
    rw [e5]
    refine an_ast (233 + 8 * r + k) 361 rfl rfl (by decide) (by simp only [ix_lit, pk_mul, nI_add]) (by omega) (by omega) ?_
    rw [wI_setz2, uqz_s (zz m) r p n k hr hk (by omega)]
    refine an_b 2 (pc2 := 15) (L2 := [some (vR 7 0 0), some (vI (nI r)), some (vI (nI p)), some (vI (nI k + 1))]) (st2 := []) (m1 := setz m (uqz (zz m) r p n (k + 1))) rfl ?_
    rw [nI_1]
    exact ih (k + 1) (by omega) (by omega)
/-- a queue's entries are hands -/
def QV (z : Nat → Int32) (r n : Nat) : Prop := z (125 + r) = nI n ∧ n ≤ 8 ∧ ∀ p, p < n → ∃ h, h < 8 ∧ z (137 + 8 * r + p) = nI h
/-- behind a grant of the request at place p, of hand h -/
def grz (z : Nat → Int32) (r p n h : Nat) : Nat → Int32 := uqz (upd (upd z (5 + 12 * h + r) (z (233 + 8 * r + p))) (345 + h) (z (345 + h) + 1)) r p n (n - 1)
theorem r_X5_grant (m : PM) (r p n h : Nat) (hr : r < 12) (hn : zz m (125 + r) = nI n) (hp : p < n) (h8 : n ≤ 8) (hh : h < 8) (hw : zz m (137 + 8 * r + p) = nI h) : Rn MX5_grant [vR 7 0 0, vI (nI r), vI (nI p)] m none (setz m (grz (zz m) r p n h)) := by
  refine rn_of [some (vR 7 0 0), some (vI (nI r)), some (vI (nI p)), none] rfl ?_
  refine an_b 3 (pc2 := 3) (L2 := [some (vR 7 0 0), some (vI (nI r)), some (vI (nI p)), none]) (st2 := [vI (nI p), vI (nI r), vR 7 0 0]) (m1 := m) rfl ?_
  refine an_call (r_X5_whoAt m r p hr (by omega)) rfl rfl rfl rfl ?_
  have e1 : v_X5_whoAt m r p = nI h := hw
  rw [e1]
  refine an_b 7 (pc2 := 13) (L2 := [some (vR 7 0 0), some (vI (nI r)), some (vI (nI p)), some (vI (nI h))]) (st2 := [vI (nI p), vI (nI r), vR 7 0 0, vI (nI r), vI (nI h), vR 7 0 0]) (m1 := m) rfl ?_
  refine an_call (r_X5_modeAt m r p hr (by omega)) rfl rfl rfl rfl ?_
  refine an_call (r_X5_setLock m h r (v_X5_modeAt m r p) hh hr) rfl rfl rfl rfl ?_
  have e2 : w_X5_setLock m h r (v_X5_modeAt m r p) = setz m (upd (zz m) (5 + 12 * h + r) (zz m (233 + 8 * r + p))) := wI_setz _ _ _
  rw [e2]
  refine an_b 6 (pc2 := 29) (L2 := [some (vR 7 0 0), some (vI (nI r)), some (vI (nI p)), some (vI (nI h))]) (st2 := [vI ((345 : Int32) + nI h), vR 8 0 0, vI ((345 : Int32) + nI h), vR 8 0 0]) (m1 := setz m (upd (zz m) (5 + 12 * h + r) (zz m (233 + 8 * r + p)))) rfl ?_
  refine an_ald (345 + h) 361 rfl rfl (by simp only [ix_lit, nI_add]) (by omega) (by omega) ?_
  have e3 : (setz m (upd (zz m) (5 + 12 * h + r) (zz m (233 + 8 * r + p)))).1 8 0 0 (345 + h) = zz m (345 + h) := by
    rw [zs]
    unfold upd
    rw [if_neg (by omega)]
  rw [e3]
  refine an_b 2 (pc2 := 32) (L2 := [some (vR 7 0 0), some (vI (nI r)), some (vI (nI p)), some (vI (nI h))]) (st2 := [vI (zz m (345 + h) + 1), vI ((345 : Int32) + nI h), vR 8 0 0]) (m1 := setz m (upd (zz m) (5 + 12 * h + r) (zz m (233 + 8 * r + p)))) rfl ?_
  refine an_ast (345 + h) 361 rfl rfl (by decide) (by simp only [ix_lit, nI_add]) (by omega) (by omega) ?_
  rw [wI_setz2]
  refine an_b 3 (pc2 := 36) (L2 := [some (vR 7 0 0), some (vI (nI r)), some (vI (nI p)), some (vI (nI h))]) (st2 := [vI (nI p), vI (nI r), vR 7 0 0]) (m1 := setz m (upd (upd (zz m) (5 + 12 * h + r) (zz m (233 + 8 * r + p))) (345 + h) (zz m (345 + h) + 1))) rfl ?_
  have hu := r_X5_unqueue (setz m (upd (upd (zz m) (5 + 12 * h + r) (zz m (233 + 8 * r + p))) (345 + h) (zz m (345 + h) + 1))) r p n hr (by
    rw [zz_setz]
    unfold upd
    rw [if_neg (by omega), if_neg (by omega)]
    exact hn) hp h8
  rw [zz_setz, setz_setz] at hu
  refine an_call hu rfl rfl rfl rfl ?_
  exact an_ret rfl rfl rfl rfl rfl
theorem qv_grz {z : Nat → Int32} {r n h : Nat} (hr : r < 12) (hh : h < 8) (hq : QV z r (n + 1)) : QV (grz z r 0 (n + 1) h) r n := by
  obtain ⟨h1, h2, h3⟩ := hq
  refine ⟨?_, by omega, fun p hp => ?_⟩
  · unfold grz uqz
    rw [if_pos rfl]
    rfl
  · obtain ⟨h0, e1, e2⟩ := h3 (p + 1) (by omega)
    refine ⟨h0, e1, ?_⟩
    unfold grz uqz upd
    rw [if_neg (by omega), if_pos (by omega), if_neg (by omega), if_neg (by omega)]
    exact e2
/-- a memory with this row of numbers -/
def zm (z : Nat → Int32) : PM := setz ((fun _ _ _ _ => 0), (fun _ _ _ _ => 0)) z
def clz (z : Nat → Int32) (r : Nat) (md but : Int32) : Int32 := v_X5_clashing (zm z) r md but
theorem clz_eq (m : PM) (r : Nat) (md but : Int32) : v_X5_clashing m r md but = clz (zz m) r md but := by
  unfold clz v_X5_clashing
  have e : b_X5_clashing_1 m r md but = b_X5_clashing_1 (zm (zz m)) r md but := by
    funext j s
    unfold b_X5_clashing_1 v_X5_lockOf zm
    simp only [zs]
    rfl
  rw [e]
/-- a row is settled: n stand in its queue, c were granted -/
def stz (r : Nat) : Nat → (Nat → Int32) → Int32 → Int32 × (Nat → Int32)
  | 0, z, c => (c, z)
  | n + 1, z, c => if clz z r (z (233 + 8 * r)) (z (137 + 8 * r)) = 0 then stz r n (grz z r 0 (n + 1) (z (137 + 8 * r)).toNatClampNeg) (c + 1) else (c, z)
theorem r_X5_settle (m : PM) (r n : Nat) (hr : r < 12) (hq : QV (zz m) r n) : Rn MX5_settle [vR 7 0 0, vI (nI r)] m (some (vI (stz r n (zz m) 0).1)) (setz m (stz r n (zz m) 0).2) := by
  refine rn_of [some (vR 7 0 0), some (vI (nI r)), none] rfl ?_
  refine an_b 2 (pc2 := 2) (L2 := [some (vR 7 0 0), some (vI (nI r)), some (vI 0)]) (st2 := []) (m1 := m) rfl ?_
  suffices K : ∀ n z c, QV z r n → An MX5_settle 2 [some (vR 7 0 0), some (vI (nI r)), some (vI c)] [] (setz m z) (.inl (some (vI (stz r n z c).1))) (setz m (stz r n z c).2) by
    have k := K n (zz m) 0 hq
    rw [setz_zz] at k
    exact k
  have last : ∀ (z : Nat → Int32) (c : Int32), An MX5_settle 46 [some (vR 7 0 0), some (vI (nI r)), some (vI c)] [] (setz m z) (.inl (some (vI c))) (setz m z) := by
    intro z c
    refine an_b 1 (pc2 := 47) (L2 := [some (vR 7 0 0), some (vI (nI r)), some (vI c)]) (st2 := [vI c]) (m1 := setz m z) rfl ?_
    exact an_ret rfl rfl rfl rfl rfl
  intro n
  induction n with
  | zero =>
    intro z c hz
    refine an_b 5 (pc2 := 10) (L2 := [some (vR 7 0 0), some (vI (nI r)), some (vI c)]) (st2 := [vI ((125 : Int32) + nI r), vR 8 0 0]) (m1 := setz m z) rfl ?_
    refine an_ald (125 + r) 361 rfl rfl (by simp only [ix_lit, nI_add]) (by omega) (by omega) ?_
    rw [zs, hz.1]
    refine an_b 1 (pc2 := if nI 0 ≤ 0 then 46 else 14) (L2 := [some (vR 7 0 0), some (vI (nI r)), some (vI c)]) (st2 := []) (m1 := setz m z) rfl ?_
    exact an_t (by decide) (last z c)
  | succ n ih =>
    intro z c hz
    obtain ⟨z1, z2, z3⟩ := id hz
    refine an_b 5 (pc2 := 10) (L2 := [some (vR 7 0 0), some (vI (nI r)), some (vI c)]) (st2 := [vI ((125 : Int32) + nI r), vR 8 0 0]) (m1 := setz m z) rfl ?_
    refine an_ald (125 + r) 361 rfl rfl (by simp only [ix_lit, nI_add]) (by omega) (by omega) ?_
    rw [zs, z1]
    refine an_b 1 (pc2 := if nI (n + 1) ≤ 0 then 46 else 14) (L2 := [some (vR 7 0 0), some (vI (nI r)), some (vI c)]) (st2 := []) (m1 := setz m z) rfl ?_
    refine an_f (nI_nle (by omega) (by omega)) ?_
    refine an_b 5 (pc2 := 19) (L2 := [some (vR 7 0 0), some (vI (nI r)), some (vI c)]) (st2 := [vI 0, vI (nI r), vR 7 0 0, vI (nI r), vR 7 0 0]) (m1 := setz m z) rfl ?_
    refine an_call (r_X5_modeAt (setz m z) r 0 hr (by omega)) rfl rfl rfl rfl ?_
    refine an_b 3 (pc2 := 25) (L2 := [some (vR 7 0 0), some (vI (nI r)), some (vI c)]) (st2 := [vI 0, vI (nI r), vR 7 0 0, vI (v_X5_modeAt (setz m z) r 0), vI (nI r), vR 7 0 0]) (m1 := setz m z) rfl ?_
    refine an_call (r_X5_whoAt (setz m z) r 0 hr (by omega)) rfl rfl rfl rfl ?_
    refine an_call (r_X5_clashing (setz m z) r (v_X5_modeAt (setz m z) r 0) (v_X5_whoAt (setz m z) r 0) hr) rfl rfl rfl rfl ?_
    have e1 : v_X5_modeAt (setz m z) r 0 = z (233 + 8 * r) := zs m z _
    have e2 : v_X5_whoAt (setz m z) r 0 = z (137 + 8 * r) := zs m z _
    rw [clz_eq, zz_setz, e1, e2]
    refine an_b 1 (pc2 := if ¬ clz z r (z (233 + 8 * r)) (z (137 + 8 * r)) = 0 then 46 else 34) (L2 := [some (vR 7 0 0), some (vI (nI r)), some (vI c)]) (st2 := []) (m1 := setz m z) rfl ?_
    unfold stz
    by_cases hc : clz z r (z (233 + 8 * r)) (z (137 + 8 * r)) = 0
    · rw [if_pos hc]
      refine an_f (fun q => q hc) ?_
      refine an_b 3 (pc2 := 37) (L2 := [some (vR 7 0 0), some (vI (nI r)), some (vI c)]) (st2 := [vI 0, vI (nI r), vR 7 0 0]) (m1 := setz m z) rfl ?_
      obtain ⟨h, hh, eh⟩ := z3 0 (by omega)
      have eh : z (137 + 8 * r) = nI h := eh
      have hg := r_X5_grant (setz m z) r 0 (n + 1) h hr (by rw [zz_setz]; exact z1) (by omega) z2 hh (by rw [zz_setz]; exact eh)
      rw [zz_setz, setz_setz] at hg
      refine an_call hg rfl rfl rfl rfl ?_
      have ecl : (z (137 + 8 * r)).toNatClampNeg = h := by rw [eh]; exact nI_clamp (by omega)
      rw [ecl]
      refine an_b 2 (pc2 := 2) (L2 := [some (vR 7 0 0), some (vI (nI r)), some (vI (c + 1))]) (st2 := []) (m1 := setz m (grz z r 0 (n + 1) h)) rfl ?_
      exact ih _ (c + 1) (qv_grz hr hh hz)
    · rw [if_neg hc]
      exact an_t hc (last z c)
