/-! enqueue -/
/-- the place behind the holders that stand first: d are left, p passed -/
def hpz (z : Nat → Int32) (r : Nat) : Nat → Nat → Nat
  | 0, p => p
  | d + 1, p => if z (5 + 12 * (z (137 + 8 * r + p)).toNatClampNeg + r) ≤ 0 then p else hpz z r d (p + 1)
theorem hpz_le (z : Nat → Int32) (r : Nat) : ∀ d p, p ≤ hpz z r d p ∧ hpz z r d p ≤ p + d := by
  intro d
  induction d with
  | zero => intro p; unfold hpz; omega
  | succ d ih =>
    intro p
    unfold hpz
    have := ih (p + 1)
    split <;> omega
/-- the places behind k moved up by one, n in the queue -/
def eqz (z : Nat → Int32) (r k n : Nat) (i : Nat) : Int32 := if 137 + 8 * r + k < i ∧ i ≤ 137 + 8 * r + n then z (i - 1) else if 233 + 8 * r + k < i ∧ i ≤ 233 + 8 * r + n then z (i - 1) else z i
theorem eqz_0 (z : Nat → Int32) (r n : Nat) : eqz z r n n = z := by
  funext i
  unfold eqz
  rw [if_neg (by omega), if_neg (by omega)]
theorem eqz_s (z : Nat → Int32) (r k n : Nat) (hr : r < 12) (hk : k < n) (hn : n < 8) : upd (upd (eqz z r (k + 1) n) (137 + 8 * r + (k + 1)) (z (137 + 8 * r + k))) (233 + 8 * r + (k + 1)) (z (233 + 8 * r + k)) = eqz z r k n := by
  funext i
  unfold eqz upd
  dsimp only
  (repeat' split) <;> first | rfl | (exfalso; omega) | (congr 1; omega)
/-- hand h stands at place pl of the row's queue, with its mode -/
def enz (z : Nat → Int32) (r h : Nat) (md : Int32) (pl n : Nat) (i : Nat) : Int32 := if i = 125 + r then nI (n + 1) else if i = 233 + 8 * r + pl then md else if i = 137 + 8 * r + pl then nI h else eqz z r pl n i
def plz (z : Nat → Int32) (r h n : Nat) : Nat := if z (5 + 12 * h + r) ≤ 0 then n else hpz z r n 0
theorem plz_le (z : Nat → Int32) (r h n : Nat) : plz z r h n ≤ n := by
  unfold plz
  have := hpz_le z r n 0
  split <;> omega
theorem r_X5_enqueue (m : PM) (r h n : Nat) (md : Int32) (hr : r < 12) (hh : h < 8) (hq : QV (zz m) r n) (hn : n < 8) : Rn MX5_enqueue [vR 7 0 0, vI (nI r), vI (nI h), vI md] m none (setz m (enz (zz m) r h md (plz (zz m) r h n) n)) := by
  obtain ⟨q1, _, q3⟩ := hq
  have q1' : m.1 8 0 0 (125 + r) = nI n := q1
  refine rn_of [some (vR 7 0 0), some (vI (nI r)), some (vI (nI h)), some (vI md), none, none] rfl ?_
  have tail : ∀ pl, pl ≤ n → An MX5_enqueue 58 [some (vR 7 0 0), some (vI (nI r)), some (vI (nI h)), some (vI md), some (vI (nI pl)), none] [] m (.inl none) (setz m (enz (zz m) r h md pl n)) := by
    intro pl hpl
    refine an_b 5 (pc2 := 66) (L2 := [some (vR 7 0 0), some (vI (nI r)), some (vI (nI h)), some (vI md), some (vI (nI pl)), none]) (st2 := [vI ((125 : Int32) + nI r), vR 8 0 0]) (m1 := m) rfl ?_
    refine an_ald (125 + r) 361 rfl rfl (by simp only [ix_lit, nI_add]) (by omega) (by omega) ?_
    rw [q1']
    refine an_b 1 (pc2 := 69) (L2 := [some (vR 7 0 0), some (vI (nI r)), some (vI (nI h)), some (vI md), some (vI (nI pl)), some (vI (nI n))]) (st2 := []) (m1 := m) rfl ?_
    suffices K : ∀ d k, k = pl + d → k ≤ n → An MX5_enqueue 69 [some (vR 7 0 0), some (vI (nI r)), some (vI (nI h)), some (vI md), some (vI (nI pl)), some (vI (nI k))] [] (setz m (eqz (zz m) r k n)) (.inl none) (setz m (enz (zz m) r h md pl n)) by
      have k := K (n - pl) n (by omega) (Nat.le_refl _)
      rw [eqz_0, setz_zz] at k
      exact k
    intro d
    induction d with
    | zero =>
      intro k hk hkn
      obtain rfl : k = pl := by omega
      refine an_b 3 (pc2 := if nI k ≤ nI k then 132 else 76) (L2 := [some (vR 7 0 0), some (vI (nI r)), some (vI (nI h)), some (vI md), some (vI (nI k)), some (vI (nI k))]) (st2 := []) (m1 := setz m (eqz (zz m) r k n)) rfl ?_
      refine an_t (nI_le (Nat.le_refl _) (by omega)) ?_
      refine an_b 10 (pc2 := 148) (L2 := [some (vR 7 0 0), some (vI (nI r)), some (vI (nI h)), some (vI md), some (vI (nI k)), some (vI (nI k))]) (st2 := [vI (nI h), vI ((137 : Int32) + (8 : Int32) * nI r + nI k), vR 8 0 0]) (m1 := setz m (eqz (zz m) r k n)) rfl ?_
      refine an_ast (137 + 8 * r + k) 361 rfl rfl (by decide) (by simp only [ix_lit, pk_mul, nI_add]) (by omega) (by omega) ?_
      rw [wI_setz2]
      refine an_b 10 (pc2 := 165) (L2 := [some (vR 7 0 0), some (vI (nI r)), some (vI (nI h)), some (vI md), some (vI (nI k)), some (vI (nI k))]) (st2 := [vI md, vI ((233 : Int32) + (8 : Int32) * nI r + nI k), vR 8 0 0]) (m1 := setz m (upd (eqz (zz m) r k n) (137 + 8 * r + k) (nI h))) rfl ?_
      refine an_ast (233 + 8 * r + k) 361 rfl rfl (by decide) (by simp only [ix_lit, pk_mul, nI_add]) (by omega) (by omega) ?_
      rw [wI_setz2]
      refine an_b 6 (pc2 := 175) (L2 := [some (vR 7 0 0), some (vI (nI r)), some (vI (nI h)), some (vI md), some (vI (nI k)), some (vI (nI k))]) (st2 := [vI ((125 : Int32) + nI r), vR 8 0 0, vI ((125 : Int32) + nI r), vR 8 0 0]) (m1 := setz m (upd (upd (eqz (zz m) r k n) (137 + 8 * r + k) (nI h)) (233 + 8 * r + k) md)) rfl ?_
      refine an_ald (125 + r) 361 rfl rfl (by simp only [ix_lit, nI_add]) (by omega) (by omega) ?_
      have e3 : (setz m (upd (upd (eqz (zz m) r k n) (137 + 8 * r + k) (nI h)) (233 + 8 * r + k) md)).1 8 0 0 (125 + r) = nI n := by
        rw [zs]
        unfold upd eqz
        rw [if_neg (by omega), if_neg (by omega), if_neg (by omega), if_neg (by omega)]
        exact q1
      rw [e3]
      refine an_b 2 (pc2 := 178) (L2 := [some (vR 7 0 0), some (vI (nI r)), some (vI (nI h)), some (vI md), some (vI (nI k)), some (vI (nI k))]) (st2 := [vI (nI n + 1), vI ((125 : Int32) + nI r), vR 8 0 0]) (m1 := setz m (upd (upd (eqz (zz m) r k n) (137 + 8 * r + k) (nI h)) (233 + 8 * r + k) md)) rfl ?_
      refine an_ast (125 + r) 361 rfl rfl (by decide) (by simp only [ix_lit, nI_add]) (by omega) (by omega) ?_
      rw [wI_setz2, nI_1]
      have e4 : upd (upd (upd (eqz (zz m) r k n) (137 + 8 * r + k) (nI h)) (233 + 8 * r + k) md) (125 + r) (nI (n + 1)) = enz (zz m) r h md k n := by
        funext i
        unfold enz upd
        dsimp only
      rw [e4]
      exact an_ret rfl rfl rfl rfl rfl
    | succ d ih =>
      intro k0 hk hkn
      obtain ⟨k, rfl⟩ : ∃ k, k0 = k + 1 := ⟨k0 - 1, by omega⟩
      refine an_b 3 (pc2 := if nI (k + 1) ≤ nI pl then 132 else 76) (L2 := [some (vR 7 0 0), some (vI (nI r)), some (vI (nI h)), some (vI md), some (vI (nI pl)), some (vI (nI (k + 1)))]) (st2 := []) (m1 := setz m (eqz (zz m) r (k + 1) n)) rfl ?_
      refine an_f (nI_ge (by omega) (by omega)) ?_
      refine an_b 14 (pc2 := 97) (L2 := [some (vR 7 0 0), some (vI (nI r)), some (vI (nI h)), some (vI md), some (vI (nI pl)), some (vI (nI (k + 1)))]) (st2 := [vI (nI (k + 1) - 1), vI (nI r), vR 7 0 0, vI ((137 : Int32) + (8 : Int32) * nI r + nI (k + 1)), vR 8 0 0]) (m1 := setz m (eqz (zz m) r (k + 1) n)) rfl ?_
      rw [nI_pred]
      refine an_call (r_X5_whoAt _ r k hr (by omega)) rfl rfl rfl rfl ?_
      have e4 : v_X5_whoAt (setz m (eqz (zz m) r (k + 1) n)) r k = zz m (137 + 8 * r + k) := by
        unfold v_X5_whoAt
        rw [zs]
        unfold eqz
        rw [if_neg (by omega), if_neg (by omega)]
      rw [e4]
      refine an_ast (137 + 8 * r + (k + 1)) 361 rfl rfl (by decide) (by simp only [ix_lit, pk_mul, nI_add]) (by omega) (by omega) ?_
      rw [wI_setz2]
      refine an_b 14 (pc2 := 122) (L2 := [some (vR 7 0 0), some (vI (nI r)), some (vI (nI h)), some (vI md), some (vI (nI pl)), some (vI (nI (k + 1)))]) (st2 := [vI (nI (k + 1) - 1), vI (nI r), vR 7 0 0, vI ((233 : Int32) + (8 : Int32) * nI r + nI (k + 1)), vR 8 0 0]) (m1 := setz m (upd (eqz (zz m) r (k + 1) n) (137 + 8 * r + (k + 1)) (zz m (137 + 8 * r + k)))) rfl ?_
      rw [nI_pred]
      refine an_call (r_X5_modeAt _ r k hr (by omega)) rfl rfl rfl rfl ?_
      have e5 : v_X5_modeAt (setz m (upd (eqz (zz m) r (k + 1) n) (137 + 8 * r + (k + 1)) (zz m (137 + 8 * r + k)))) r k = zz m (233 + 8 * r + k) := by
        unfold v_X5_modeAt
        rw [zs]
        unfold upd eqz
        rw [if_neg (by omega), if_neg (by omega), if_neg (by omega)]
      rw [e5]
      refine an_ast (233 + 8 * r + (k + 1)) 361 rfl rfl (by decide) (by simp only [ix_lit, pk_mul, nI_add]) (by omega) (by omega) ?_
      rw [wI_setz2, eqz_s (zz m) r k n hr (by omega) hn]
      refine an_b 2 (pc2 := 69) (L2 := [some (vR 7 0 0), some (vI (nI r)), some (vI (nI h)), some (vI md), some (vI (nI pl)), some (vI (nI (k + 1) + (-1)))]) (st2 := []) (m1 := setz m (eqz (zz m) r k n)) rfl ?_
      have e6 : nI (k + 1) + (-1) = nI k := by rw [← Int32.sub_eq_add_neg, nI_pred]
      rw [e6]
      exact ih k (by omega) (by omega)
  refine an_b 5 (pc2 := 8) (L2 := [some (vR 7 0 0), some (vI (nI r)), some (vI (nI h)), some (vI md), none, none]) (st2 := [vI ((125 : Int32) + nI r), vR 8 0 0]) (m1 := m) rfl ?_
  refine an_ald (125 + r) 361 rfl rfl (by simp only [ix_lit, nI_add]) (by omega) (by omega) ?_
  rw [q1']
  refine an_b 4 (pc2 := 14) (L2 := [some (vR 7 0 0), some (vI (nI r)), some (vI (nI h)), some (vI md), some (vI (nI n)), none]) (st2 := [vI (nI r), vI (nI h), vR 7 0 0]) (m1 := m) rfl ?_
  refine an_call (r_X5_lockOf m h r hh hr) rfl rfl rfl rfl ?_
  refine an_b 1 (pc2 := if zz m (5 + 12 * h + r) ≤ 0 then 58 else 20) (L2 := [some (vR 7 0 0), some (vI (nI r)), some (vI (nI h)), some (vI md), some (vI (nI n)), none]) (st2 := []) (m1 := m) rfl ?_
  by_cases c1 : zz m (5 + 12 * h + r) ≤ 0
  · have ep : plz (zz m) r h n = n := by unfold plz; rw [if_pos c1]
    rw [ep]
    exact an_t c1 (tail n (Nat.le_refl _))
  · have ep : plz (zz m) r h n = hpz (zz m) r n 0 := by unfold plz; rw [if_neg c1]
    rw [ep]
    refine an_f c1 ?_
    refine an_b 2 (pc2 := 23) (L2 := [some (vR 7 0 0), some (vI (nI r)), some (vI (nI h)), some (vI md), some (vI (nI 0)), none]) (st2 := []) (m1 := m) rfl ?_
    suffices K : ∀ d p, p + d = n → An MX5_enqueue 23 [some (vR 7 0 0), some (vI (nI r)), some (vI (nI h)), some (vI md), some (vI (nI p)), none] [] m (.inl none) (setz m (enz (zz m) r h md (hpz (zz m) r d p) n)) from K n 0 (by omega)
    intro d
    induction d with
    | zero =>
      intro p hp
      obtain rfl : p = n := by omega
      unfold hpz
      refine an_b 6 (pc2 := 33) (L2 := [some (vR 7 0 0), some (vI (nI r)), some (vI (nI h)), some (vI md), some (vI (nI p)), none]) (st2 := [vI ((125 : Int32) + nI r), vR 8 0 0, vI (nI p)]) (m1 := m) rfl ?_
      refine an_ald (125 + r) 361 rfl rfl (by simp only [ix_lit, nI_add]) (by omega) (by omega) ?_
      rw [q1']
      refine an_b 1 (pc2 := if nI p ≤ nI p then 58 else 37) (L2 := [some (vR 7 0 0), some (vI (nI r)), some (vI (nI h)), some (vI md), some (vI (nI p)), none]) (st2 := []) (m1 := m) rfl ?_
      exact an_t (nI_le (Nat.le_refl _) (by omega)) (tail p (Nat.le_refl _))
    | succ d ih =>
      intro p hp
      refine an_b 6 (pc2 := 33) (L2 := [some (vR 7 0 0), some (vI (nI r)), some (vI (nI h)), some (vI md), some (vI (nI p)), none]) (st2 := [vI ((125 : Int32) + nI r), vR 8 0 0, vI (nI p)]) (m1 := m) rfl ?_
      refine an_ald (125 + r) 361 rfl rfl (by simp only [ix_lit, nI_add]) (by omega) (by omega) ?_
      rw [q1']
      refine an_b 1 (pc2 := if nI n ≤ nI p then 58 else 37) (L2 := [some (vR 7 0 0), some (vI (nI r)), some (vI (nI h)), some (vI md), some (vI (nI p)), none]) (st2 := []) (m1 := m) rfl ?_
      refine an_f (nI_ge (by omega) (by omega)) ?_
      refine an_b 4 (pc2 := 42) (L2 := [some (vR 7 0 0), some (vI (nI r)), some (vI (nI h)), some (vI md), some (vI (nI p)), none]) (st2 := [vI (nI p), vI (nI r), vR 7 0 0, vR 7 0 0]) (m1 := m) rfl ?_
      refine an_call (r_X5_whoAt m r p hr (by omega)) rfl rfl rfl rfl ?_
      obtain ⟨h0, hh0, eh⟩ := q3 p (by omega)
      have e1 : v_X5_whoAt m r p = nI h0 := eh
      rw [e1]
      refine an_b 1 (pc2 := 46) (L2 := [some (vR 7 0 0), some (vI (nI r)), some (vI (nI h)), some (vI md), some (vI (nI p)), none]) (st2 := [vI (nI r), vI (nI h0), vR 7 0 0]) (m1 := m) rfl ?_
      refine an_call (r_X5_lockOf m h0 r hh0 hr) rfl rfl rfl rfl ?_
      refine an_b 1 (pc2 := if zz m (5 + 12 * h0 + r) ≤ 0 then 58 else 52) (L2 := [some (vR 7 0 0), some (vI (nI r)), some (vI (nI h)), some (vI md), some (vI (nI p)), none]) (st2 := []) (m1 := m) rfl ?_
      have ec : (zz m (137 + 8 * r + p)).toNatClampNeg = h0 := by rw [eh]; exact nI_clamp (by omega)
      unfold hpz
      rw [ec]
      by_cases c2 : zz m (5 + 12 * h0 + r) ≤ 0
      · refine an_t c2 ?_
        rw [if_pos c2]
        exact tail p (by omega)
      · refine an_f c2 ?_
        rw [if_neg c2]
        refine an_b 2 (pc2 := 23) (L2 := [some (vR 7 0 0), some (vI (nI r)), some (vI (nI h)), some (vI md), some (vI (nI p + 1)), none]) (st2 := []) (m1 := m) rfl ?_
        rw [nI_1]
        exact ih (p + 1) (by omega)
