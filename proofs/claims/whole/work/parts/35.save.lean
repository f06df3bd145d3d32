/-! save, undo -/
/-- the history's row and the number of states -/
def sets (m : PM) (f : Nat → Int32) (v : Int32) : PM := (fun t k g i => if t = 8 ∧ k = 1 ∧ g = 0 then f i else if t = 7 ∧ k = 0 ∧ g = 0 ∧ i = 1 then v else m.1 t k g i, m.2)
def hs (m : PM) (i : Nat) : Int32 := m.1 8 1 0 i
def sts (m : PM) : Int32 := m.1 7 0 0 1
theorem sets_id (m : PM) : sets m (hs m) (sts m) = m := by
  obtain ⟨a, b⟩ := m
  unfold sets hs sts
  congr 1
  funext t k g i
  dsimp only
  by_cases h : t = 8 ∧ k = 1 ∧ g = 0
  · rw [if_pos h]; obtain ⟨rfl, rfl, rfl⟩ := h; rfl
  · rw [if_neg h]
    by_cases h2 : t = 7 ∧ k = 0 ∧ g = 0 ∧ i = 1
    · rw [if_pos h2]; obtain ⟨rfl, rfl, rfl, rfl⟩ := h2; rfl
    · rw [if_neg h2]
theorem sets_h (m : PM) (f : Nat → Int32) (v : Int32) (i : Nat) : (sets m f v).1 8 1 0 i = f i := by
  unfold sets
  dsimp only
  rw [if_pos ⟨rfl, rfl, rfl⟩]
theorem sets_s (m : PM) (f : Nat → Int32) (v : Int32) : (sets m f v).1 7 0 0 1 = v := by
  unfold sets
  dsimp only
  rw [if_neg (by decide), if_pos ⟨rfl, rfl, rfl, rfl⟩]
theorem sets_z (m : PM) (f : Nat → Int32) (v : Int32) (i : Nat) : (sets m f v).1 8 0 0 i = m.1 8 0 0 i := by
  unfold sets
  dsimp only
  rw [if_neg (by omega), if_neg (by omega)]
theorem sets_wh (m : PM) (f : Nat → Int32) (v : Int32) (i : Nat) (x : Int32) : wI (sets m f v) 8 1 0 i x = sets m (upd f i x) v := by
  unfold wI sets upd
  congr 1
  funext t k g j
  dsimp only
  by_cases h : t = 8 ∧ k = 1 ∧ g = 0
  · obtain ⟨rfl, rfl, rfl⟩ := h
    by_cases hj : j = i
    · rw [if_pos ⟨rfl, rfl, rfl, hj⟩, if_pos ⟨rfl, rfl, rfl⟩, if_pos hj]
    · rw [if_neg (fun q => hj q.2.2.2), if_pos ⟨rfl, rfl, rfl⟩, if_pos ⟨rfl, rfl, rfl⟩, if_neg hj]
  · rw [if_neg (fun q => h ⟨q.1, q.2.1, q.2.2.1⟩), if_neg h, if_neg h]
theorem sets_ws (m : PM) (f : Nat → Int32) (v x : Int32) : wI (sets m f v) 7 0 0 1 x = sets m f x := by
  unfold wI sets
  congr 1
  funext t k g j
  dsimp only
  by_cases h : t = 7 ∧ k = 0 ∧ g = 0 ∧ j = 1
  · rw [if_pos h, if_neg (by omega), if_pos h]
  · rw [if_neg h, if_neg h]
    by_cases h2 : t = 8 ∧ k = 1 ∧ g = 0
    · rw [if_pos h2, if_pos h2]
    · rw [if_neg h2, if_neg h2, if_neg h]
def shz (h : Nat → Int32) (k : Nat) (i : Nat) : Int32 := if i + 361 < k then h (i + 361) else h i
theorem shz_0 (h : Nat → Int32) : shz h 361 = h := by
  funext i
  unfold shz
  rw [if_neg (by omega)]
theorem shz_s (h : Nat → Int32) (j : Nat) : upd (shz h (j + 361)) j (shz h (j + 361) (j + 361)) = shz h (j + 361 + 1) := by
  funext i
  unfold upd shz
  by_cases c : i = j
  · subst c
    rw [if_pos rfl, if_neg (by omega), if_pos (by omega)]
  · rw [if_neg c]
    by_cases c2 : i + 361 < j + 361
    · rw [if_pos c2, if_pos (by omega)]
    · rw [if_neg c2, if_neg (by omega)]
/-- the history with the row z laid at state s, as far as k -/
def layz (h z : Nat → Int32) (s k : Nat) (i : Nat) : Int32 := if 361 * s ≤ i ∧ i < 361 * s + k then z (i - 361 * s) else h i
theorem layz_0 (h z : Nat → Int32) (s : Nat) : layz h z s 0 = h := by
  funext i
  unfold layz
  rw [if_neg (by omega)]
theorem layz_s (h z : Nat → Int32) (s k : Nat) : upd (layz h z s k) (361 * s + k) (z k) = layz h z s (k + 1) := by
  funext i
  unfold upd layz
  by_cases c : i = 361 * s + k
  · subst c
    rw [if_pos rfl, if_pos (by omega)]
    congr 1; omega
  · rw [if_neg c]
    by_cases c2 : 361 * s ≤ i ∧ i < 361 * s + k
    · rw [if_pos c2, if_pos (by omega)]
    · rw [if_neg c2, if_neg (by omega)]
/-- behind a save over s states -/
def savH (h z : Nat → Int32) (s : Nat) : Nat → Int32 := if s = 6 then layz (shz h 2166) z 5 361 else layz h z s 361
def w_X5_save (m : PM) (s : Nat) : PM := sets m (savH (hs m) (zz m) s) (nI (if s = 6 then 6 else s + 1))
theorem r_X5_save (m : PM) (s : Nat) (hs6 : s ≤ 6) (hs1 : sts m = nI s) : Rn MX5_save [vR 7 0 0] m none (w_X5_save m s) := by
  refine rn_of [some (vR 7 0 0), none] rfl ?_
  -- the row laid down
  have tail : ∀ (h : Nat → Int32) (s : Nat), s < 6 → ∀ x, An MX5_save 52 [some (vR 7 0 0), x] [] (sets m h (nI s)) (.inl none) (sets m (layz h (zz m) s 361) (nI (s + 1))) := by
    intro h s hs x
    refine an_b 2 (pc2 := 54) (L2 := [some (vR 7 0 0), some (vI 0)]) (st2 := []) (m1 := sets m h (nI s)) rfl ?_
    suffices K : ∀ d k, k + d = 361 → An MX5_save 54 [some (vR 7 0 0), some (vI (nI k))] [] (sets m (layz h (zz m) s k) (nI s)) (.inl none) (sets m (layz h (zz m) s 361) (nI (s + 1))) by
      have k := K 361 0 rfl
      rw [layz_0] at k
      exact k
    intro d
    induction d with
    | zero =>
      intro k hk
      obtain rfl : k = 361 := by omega
      refine an_b 3 (pc2 := if (361 : Int32) ≤ nI 361 then 88 else 61) (L2 := [some (vR 7 0 0), some (vI (nI 361))]) (st2 := []) (m1 := sets m (layz h (zz m) s 361) (nI s)) rfl ?_
      refine an_t (by decide) ?_
      refine an_b 3 (pc2 := 93) (L2 := [some (vR 7 0 0), some (vI (nI 361))]) (st2 := [vI ((sets m (layz h (zz m) s 361) (nI s)).1 7 0 0 1), vR 7 0 0]) (m1 := sets m (layz h (zz m) s 361) (nI s)) rfl ?_
      rw [sets_s]
      refine an_b 3 (pc2 := 98) (L2 := [some (vR 7 0 0), some (vI (nI 361))]) (st2 := []) (m1 := wI (sets m (layz h (zz m) s 361) (nI s)) 7 0 0 1 (nI s + 1)) rfl ?_
      rw [sets_ws, nI_1]
      exact an_ret rfl rfl rfl rfl rfl
    | succ d ih =>
      intro k hk
      refine an_b 3 (pc2 := if (361 : Int32) ≤ nI k then 88 else 61) (L2 := [some (vR 7 0 0), some (vI (nI k))]) (st2 := []) (m1 := sets m (layz h (zz m) s k) (nI s)) rfl ?_
      refine an_f (nI_ge (a := k) (b := 361) (by omega) (by omega)) ?_
      refine an_b 5 (pc2 := 72) (L2 := [some (vR 7 0 0), some (vI (nI k))]) (st2 := [vI ((sets m (layz h (zz m) s k) (nI s)).1 7 0 0 1), vI 361, vR 8 1 0]) (m1 := sets m (layz h (zz m) s k) (nI s)) rfl ?_
      rw [sets_s]
      refine an_b 6 (pc2 := 80) (L2 := [some (vR 7 0 0), some (vI (nI k))]) (st2 := [vI (nI k), vR 8 0 0, vI ((361 : Int32) * nI s + nI k), vR 8 1 0]) (m1 := sets m (layz h (zz m) s k) (nI s)) rfl ?_
      refine an_ald k 361 rfl rfl rfl (by omega) (by omega) ?_
      rw [sets_z]
      refine an_ast (361 * s + k) 2166 rfl rfl (by decide) (by simp only [ix_lit, pk_mul, nI_add]) (by omega) (by omega) ?_
      rw [sets_wh]
      show An MX5_save 82 [some (vR 7 0 0), some (vI (nI k))] [] (sets m (upd (layz h (zz m) s k) (361 * s + k) (zz m k)) (nI s)) _ _
      rw [layz_s]
      refine an_b 2 (pc2 := 54) (L2 := [some (vR 7 0 0), some (vI (nI k + 1))]) (st2 := []) (m1 := sets m (layz h (zz m) s (k + 1)) (nI s)) rfl ?_
      rw [nI_1]
      exact ih (k + 1) (by omega)
  refine an_b 4 (pc2 := if ¬ sts m = (6 : Int32) then 52 else 9) (L2 := [some (vR 7 0 0), none]) (st2 := []) (m1 := m) rfl ?_
  rw [hs1]
  unfold w_X5_save savH
  by_cases c : s = 6
  · subst c
    refine an_f (fun q => q rfl) ?_
    rw [if_pos rfl, if_pos rfl]
    refine an_b 2 (pc2 := 13) (L2 := [some (vR 7 0 0), some (vI 361)]) (st2 := []) (m1 := m) rfl ?_
    suffices K : ∀ d j, j + 361 + d = 2166 → An MX5_save 13 [some (vR 7 0 0), some (vI (nI (j + 361)))] [] (sets m (shz (hs m) (j + 361)) (nI 6)) (.inl none) (sets m (layz (shz (hs m) 2166) (zz m) 5 361) (nI 6)) by
      have k := K 1805 0 rfl
      rw [Nat.zero_add, shz_0, ← hs1, sets_id, hs1] at k
      exact k
    intro d
    induction d with
    | zero =>
      intro j hj
      obtain rfl : j = 1805 := by omega
      refine an_b 3 (pc2 := if (2166 : Int32) ≤ nI 2166 then 42 else 20) (L2 := [some (vR 7 0 0), some (vI (nI 2166))]) (st2 := []) (m1 := sets m (shz (hs m) 2166) (nI 6)) rfl ?_
      refine an_t (by decide) ?_
      refine an_b 3 (pc2 := 47) (L2 := [some (vR 7 0 0), some (vI (nI 2166))]) (st2 := [vI ((sets m (shz (hs m) 2166) (nI 6)).1 7 0 0 1), vR 7 0 0]) (m1 := sets m (shz (hs m) 2166) (nI 6)) rfl ?_
      rw [sets_s]
      refine an_b 3 (pc2 := 52) (L2 := [some (vR 7 0 0), some (vI (nI 2166))]) (st2 := []) (m1 := wI (sets m (shz (hs m) 2166) (nI 6)) 7 0 0 1 (nI 6 - 1)) rfl ?_
      rw [sets_ws]
      exact tail (shz (hs m) 2166) 5 (by omega) _
    | succ d ih =>
      intro j hj
      refine an_b 3 (pc2 := if (2166 : Int32) ≤ nI (j + 361) then 42 else 20) (L2 := [some (vR 7 0 0), some (vI (nI (j + 361)))]) (st2 := []) (m1 := sets m (shz (hs m) (j + 361)) (nI 6)) rfl ?_
      refine an_f (nI_ge (a := j + 361) (b := 2166) (by omega) (by omega)) ?_
      refine an_b 8 (pc2 := 34) (L2 := [some (vR 7 0 0), some (vI (nI (j + 361)))]) (st2 := [vI (nI (j + 361)), vR 8 1 0, vI (nI (j + 361) - 361), vR 8 1 0]) (m1 := sets m (shz (hs m) (j + 361)) (nI 6)) rfl ?_
      refine an_ald (j + 361) 2166 rfl rfl rfl (by omega) (by omega) ?_
      rw [sets_h]
      have e : nI (j + 361) - 361 = nI j := by
        rw [← nI_add]
        exact Int32.add_sub_cancel _ _
      refine an_ast j 2166 rfl rfl (by decide) e (by omega) (by omega) ?_
      rw [sets_wh, shz_s]
      refine an_b 2 (pc2 := 13) (L2 := [some (vR 7 0 0), some (vI (nI (j + 361) + 1))]) (st2 := []) (m1 := sets m (shz (hs m) (j + 361 + 1)) (nI 6)) rfl ?_
      rw [nI_1, show j + 361 + 1 = j + 1 + 361 by omega]
      exact ih (j + 1) (by omega)
  · refine an_t ?_ ?_
    · rw [show (6 : Int32) = nI 6 from rfl, nI_eq (by omega) (by omega)]; exact c
    · rw [if_neg c, if_neg c]
      have k := tail (hs m) s (by omega) none
      rw [← hs1, sets_id] at k
      exact k
theorem hs_setz (m : PM) (f : Nat → Int32) : hs (setz m f) = hs m := by
  funext i
  unfold hs setz
  dsimp only
  rw [if_neg (by decide)]
theorem sts_setz (m : PM) (f : Nat → Int32) : sts (setz m f) = sts m := by
  unfold sts setz
  dsimp only
  rw [if_neg (by decide)]
theorem hs_w7 (m : PM) (j : Nat) (v : Int32) : hs (wI m 7 0 0 j v) = hs m := by
  funext i
  unfold hs wI
  dsimp only
  rw [if_neg (by omega)]
theorem zz_w7 (m : PM) (j : Nat) (v : Int32) : zz (wI m 7 0 0 j v) = zz m := by
  funext i
  unfold zz wI
  dsimp only
  rw [if_neg (by omega)]
theorem w_at (m : PM) (t k g j : Nat) (v : Int32) : (wI m t k g j v).1 t k g j = v := by
  unfold wI
  dsimp only
  rw [if_pos ⟨rfl, rfl, rfl, rfl⟩]
/-- the row z with the first k numbers of state s -/
def ubz (h z : Nat → Int32) (s k : Nat) (i : Nat) : Int32 := if i < k then h (361 * s + i) else z i
theorem ubz_0 (h z : Nat → Int32) (s : Nat) : ubz h z s 0 = z := by
  funext i
  unfold ubz
  rw [if_neg (by omega)]
theorem ubz_s (h z : Nat → Int32) (s k : Nat) : upd (ubz h z s k) k (h (361 * s + k)) = ubz h z s (k + 1) := by
  funext i
  unfold upd ubz
  by_cases c : i = k
  · subst c
    rw [if_pos rfl, if_pos (by omega)]
  · rw [if_neg c]
    by_cases c2 : i < k
    · rw [if_pos c2, if_pos (by omega)]
    · rw [if_neg c2, if_neg (by omega)]
def undoM (m : PM) (s : Nat) : PM := wI (wI m 7 0 0 5 0) 7 0 0 1 (nI s)
def w_X5_undo (m : PM) : Nat → PM
  | 0 => wI m 7 0 0 5 1
  | s + 1 => setz (undoM m s) (ubz (hs m) (zz m) s 361)
def v_X5_undo : Nat → Int32
  | 0 => 0
  | s + 1 => nI s
theorem r_X5_undo (m : PM) (s : Nat) (hs6 : s ≤ 6) (hs1 : sts m = nI s) : Rn MX5_undo [vR 7 0 0] m (some (vI (v_X5_undo s))) (w_X5_undo m s) := by
  refine rn_of [some (vR 7 0 0), none] rfl ?_
  refine an_b 4 (pc2 := if sts m ≤ 0 then 12 else 8) (L2 := [some (vR 7 0 0), none]) (st2 := [vR 7 0 0]) (m1 := m) rfl ?_
  rw [hs1]
  cases s with
  | zero =>
    refine an_t (by decide) ?_
    refine an_b 5 (pc2 := if (wI m 7 0 0 5 1).1 7 0 0 5 ≤ 0 then 25 else 23) (L2 := [some (vR 7 0 0), none]) (st2 := []) (m1 := wI m 7 0 0 5 1) rfl ?_
    rw [w_at]
    refine an_f (by decide) ?_
    refine an_b 1 (pc2 := 24) (L2 := [some (vR 7 0 0), none]) (st2 := [vI 0]) (m1 := wI m 7 0 0 5 1) rfl ?_
    exact an_ret rfl rfl rfl rfl rfl
  | succ s =>
    refine an_f (nI_nle (by omega) (by omega)) ?_
    refine an_b 6 (pc2 := if (wI m 7 0 0 5 0).1 7 0 0 5 ≤ 0 then 25 else 23) (L2 := [some (vR 7 0 0), none]) (st2 := []) (m1 := wI m 7 0 0 5 0) (by
      show sm_many 6 _ _ = _
      rfl) ?_
    rw [w_at]
    refine an_t (by decide) ?_
    refine an_b 3 (pc2 := 30) (L2 := [some (vR 7 0 0), none]) (st2 := [vI (sts (wI m 7 0 0 5 0)), vR 7 0 0]) (m1 := wI m 7 0 0 5 0) rfl ?_
    have e1 : sts (wI m 7 0 0 5 0) = nI (s + 1) := by
      rw [← hs1]
      unfold sts wI
      dsimp only
      rw [if_neg (by decide)]
    rw [e1]
    refine an_b 5 (pc2 := 37) (L2 := [some (vR 7 0 0), some (vI 0)]) (st2 := []) (m1 := wI (wI m 7 0 0 5 0) 7 0 0 1 (nI (s + 1) - 1)) rfl ?_
    rw [nI_pred]
    show An MX5_undo 37 [some (vR 7 0 0), some (vI 0)] [] (undoM m s) _ _
    have eh : hs (undoM m s) = hs m := by unfold undoM; rw [hs_w7, hs_w7]
    have ez : zz (undoM m s) = zz m := by unfold undoM; rw [zz_w7, zz_w7]
    have es : sts (undoM m s) = nI s := w_at _ _ _ _ _ _
    show An MX5_undo 37 [some (vR 7 0 0), some (vI 0)] [] (undoM m s) (.inl (some (vI (nI s)))) (setz (undoM m s) (ubz (hs m) (zz m) s 361))
    generalize undoM m s = w at eh ez es ⊢
    suffices K : ∀ d k, k + d = 361 → An MX5_undo 37 [some (vR 7 0 0), some (vI (nI k))] [] (setz w (ubz (hs m) (zz m) s k)) (.inl (some (vI (nI s)))) (setz w (ubz (hs m) (zz m) s 361)) by
      have k := K 361 0 rfl
      rw [ubz_0, ← ez, setz_zz, ez] at k
      exact k
    intro d
    induction d with
    | zero =>
      intro k hk
      obtain rfl : k = 361 := by omega
      refine an_b 3 (pc2 := if (361 : Int32) ≤ nI 361 then 71 else 44) (L2 := [some (vR 7 0 0), some (vI (nI 361))]) (st2 := []) (m1 := setz w (ubz (hs m) (zz m) s 361)) rfl ?_
      refine an_t (by decide) ?_
      refine an_b 2 (pc2 := 75) (L2 := [some (vR 7 0 0), some (vI (nI 361))]) (st2 := [vI (sts (setz w (ubz (hs m) (zz m) s 361)))]) (m1 := setz w (ubz (hs m) (zz m) s 361)) rfl ?_
      rw [sts_setz, es]
      exact an_ret rfl rfl rfl rfl rfl
    | succ d ih =>
      intro k hk
      refine an_b 3 (pc2 := if (361 : Int32) ≤ nI k then 71 else 44) (L2 := [some (vR 7 0 0), some (vI (nI k))]) (st2 := []) (m1 := setz w (ubz (hs m) (zz m) s k)) rfl ?_
      refine an_f (nI_ge (a := k) (b := 361) (by omega) (by omega)) ?_
      refine an_b 8 (pc2 := 60) (L2 := [some (vR 7 0 0), some (vI (nI k))]) (st2 := [vI (sts (setz w (ubz (hs m) (zz m) s k))), vI 361, vR 8 1 0, vI (nI k), vR 8 0 0]) (m1 := setz w (ubz (hs m) (zz m) s k)) rfl ?_
      rw [sts_setz, es]
      refine an_b 3 (pc2 := 63) (L2 := [some (vR 7 0 0), some (vI (nI k))]) (st2 := [vI ((361 : Int32) * nI s + nI k), vR 8 1 0, vI (nI k), vR 8 0 0]) (m1 := setz w (ubz (hs m) (zz m) s k)) rfl ?_
      refine an_ald (361 * s + k) 2166 rfl rfl (by simp only [ix_lit, pk_mul, nI_add]) (by omega) (by omega) ?_
      have e5 : (setz w (ubz (hs m) (zz m) s k)).1 8 1 0 (361 * s + k) = hs m (361 * s + k) := by
        have q := congrFun (hs_setz w (ubz (hs m) (zz m) s k)) (361 * s + k)
        rw [eh] at q
        exact q
      rw [e5]
      refine an_ast k 361 rfl rfl (by decide) rfl (by omega) (by omega) ?_
      rw [wI_setz2, ubz_s]
      refine an_b 2 (pc2 := 37) (L2 := [some (vR 7 0 0), some (vI (nI k + 1))]) (st2 := []) (m1 := setz w (ubz (hs m) (zz m) s (k + 1))) rfl ?_
      rw [nI_1]
      exact ih (k + 1) (by omega)
