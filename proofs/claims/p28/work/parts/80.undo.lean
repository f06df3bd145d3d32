/-! save and undo agree; the text grows and is cleared -/
theorem L_le (x : Int32) {n a : Nat} (hx : x = nI n) (h : n ≤ a) (h2 : a < 2 ^ 31) : x ≤ nI a := by rw [hx]; exact nI_le h h2
theorem L_nle (x : Int32) {n a : Nat} (hx : x = nI n) (h : a < n) (h2 : n < 2 ^ 31) : ¬ x ≤ nI a := by rw [hx]; exact nI_ge h h2
theorem R_lt (x : Int32) {n a : Nat} (hx : x = nI n) (h : a < n) (h2 : n < 2 ^ 31) : nI a < x := by rw [hx]; exact nI_lt h h2
theorem R_nlt (x : Int32) {n a : Nat} (hx : x = nI n) (h : n ≤ a) (h2 : a < 2 ^ 31) : ¬ nI a < x := by rw [hx]; exact nI_nlt h h2
theorem clT_w4 (M : PM) (g i : Nat) (x : Int32) : clT (wI M 4 0 0 i x) g = clT M g := by
  funext k j
  unfold clT wI
  dsimp only
  by_cases hk : k < 11
  · rw [if_pos hk, if_pos hk, if_neg (by omega)]
  · rw [if_neg hk, if_neg hk, if_neg (by omega)]
def svN (s : Nat) : Nat := if s = 6 then 6 else s + 1
/-- a state is saved -/
theorem save_R {M m : PM} {s len K : Nat} (H : WR M m s len K) : WR (w_X0_save M 0) (w_X5_save m s) (svN s) len K ∧ clT (w_X0_save M 0) 0 = clT M 0 := by
  obtain ⟨a1, a2, a3, a4, ⟨nx, b1, b2, b3⟩, a5, a6, a7, a8⟩ := H
  have eC : (M.1 4 0 0 1).toNatClampNeg = nx := by rw [b2]; exact nI_clamp (by omega)
  obtain ⟨c2, q1, q2⟩ := copy_R M (g := 2 + nx) (g1 := 0) (by omega)
  have e1 : sv_1 M 0 = setS M (2 + nx) c2 := by unfold sv_1; rw [eC]; exact q1
  have o4 : ∀ i, (setS M (2 + nx) c2).1 4 0 0 i = M.1 4 0 0 i := fun i => by
    unfold setS
    dsimp only
    rw [if_neg (by omega), if_neg (by omega)]
  have e2 : sv_2 (setS M (2 + nx) c2) = wI (setS M (2 + nx) c2) 4 0 0 1 (nI ((nx + 1) % 6)) := by
    unfold sv_2
    rw [o4, b2, nI_1]
    congr 1
    by_cases c : 6 ≤ nx + 1
    · rw [if_pos (L_le 6 (n := 6) rfl c (by omega)), show (nx + 1) % 6 = 0 by omega]
      rfl
    · rw [if_neg (L_nle 6 (n := 6) (a := nx + 1) rfl (by omega) (by omega)), show (nx + 1) % 6 = nx + 1 by omega]
  have e3 : sv_3 (wI (setS M (2 + nx) c2) 4 0 0 1 (nI ((nx + 1) % 6))) = wI (wI (setS M (2 + nx) c2) 4 0 0 1 (nI ((nx + 1) % 6))) 4 0 0 2 (nI (svN s)) := by
    unfold sv_3
    have e4 : (wI (setS M (2 + nx) c2) 4 0 0 1 (nI ((nx + 1) % 6))).1 4 0 0 2 = nI s := by
      unfold wI
      dsimp only
      rw [if_neg (by decide), o4, a4]
    rw [e4, nI_1]
    congr 1
    unfold svN
    by_cases c : s + 1 < 6
    · rw [if_pos (R_lt 6 (n := 6) rfl c (by omega)), if_neg (by omega)]
    · rw [if_neg (R_nlt 6 (n := 6) (a := s + 1) rfl (by omega) (by omega))]
      by_cases c6 : s = 6
      · rw [if_pos c6]; rfl
      · rw [if_neg c6, show s + 1 = 6 by omega]; rfl
  have eW : w_X0_save M 0 = wI (wI (setS M (2 + nx) c2) 4 0 0 1 (nI ((nx + 1) % 6))) 4 0 0 2 (nI (svN s)) := by
    unfold w_X0_save
    rw [b2, if_neg (nI_pos (by omega)), if_neg (L_nle 6 (n := 6) (a := nx) rfl (by omega) (by omega)), e1, e2, e3]
  have eT : ∀ g, clT (w_X0_save M 0) g = clT (setS M (2 + nx) c2) g := fun g => by rw [eW, clT_w4, clT_w4]
  have eT0 : clT (w_X0_save M 0) 0 = clT M 0 := by rw [eT, clT_o M c2 (by omega)]
  have w4 : ∀ (X : PM) (t k g i j : Nat) (x : Int32), ¬ (t = 4 ∧ k = 0 ∧ g = 0 ∧ i = j) → (wI X 4 0 0 j x).1 t k g i = X.1 t k g i := fun X t k g i j x h => by
    unfold wI
    dsimp only
    rw [if_neg h]
  have hz : zz (w_X5_save m s) = zz m := zz_save m s
  have hh : ∀ i, hs (w_X5_save m s) i = savH (hs m) (zz m) s i := fun i => sets_h m _ _ i
  refine ⟨⟨by rw [eT0]; exact slr_z a1 (fun i _ => congrFun hz i), by unfold svN; split <;> omega, sets_s m _ _, ?_, ⟨(nx + 1) % 6, Nat.mod_lt _ (by omega), ?_, fun j hj => ?_⟩, a5, ?_, ?_, fun i hi => ?_⟩, eT0⟩
  · rw [eW]; exact w_at _ _ _ _ _ _
  · rw [eW, w4 _ _ _ _ _ _ _ (by omega)]; exact w_at _ _ _ _ _ _
  · rw [eT]
    by_cases c6 : s = 6
    · subst c6
      have hj : j < 6 := hj
      have eH : ∀ i, i < 361 → hs (w_X5_save m 6) (361 * j + i) = if j = 5 then zz m i else hs m (361 * (j + 1) + i) := fun i hi => by
        rw [hh]
        unfold savH
        rw [if_pos rfl]
        unfold layz shz
        by_cases cj : j = 5
        · subst cj
          rw [if_pos (by omega), if_pos rfl]
          exact congrArg (zz m) (by omega)
        · rw [if_neg (by omega), if_pos (by omega), if_neg cj]
          congr 1
          omega
      by_cases cj : j = 5
      · subst cj
        rw [show 2 + ((nx + 1) % 6 + 6 - svN 6 + 5) % 6 = 2 + nx by unfold svN; simp only [if_pos]; omega]
        refine slr_z (slr_eqc (slr_eqc a1 q2) (clT_S M (2 + nx) c2)) (fun i hi => ?_)
        rw [eH i hi, if_pos rfl]
      · have en : 2 + ((nx + 1) % 6 + 6 - svN 6 + j) % 6 = 2 + (nx + 6 - 6 + (j + 1)) % 6 := by unfold svN; simp only [if_pos]; omega
        rw [en, clT_o M c2 (by omega)]
        refine slr_z (b3 (j + 1) (by omega)) (fun i hi => ?_)
        rw [eH i hi, if_neg cj]
    · have hsv : svN s = s + 1 := by unfold svN; rw [if_neg c6]
      rw [hsv] at hj ⊢
      have eH : ∀ i, i < 361 → hs (w_X5_save m s) (361 * j + i) = if j = s then zz m i else hs m (361 * j + i) := fun i hi => by
        rw [hh]
        unfold savH
        rw [if_neg c6]
        unfold layz
        by_cases cj : j = s
        · subst cj
          rw [if_pos (by omega), if_pos rfl]
          exact congrArg (zz m) (by omega)
        · rw [if_neg (by omega), if_neg cj]
      by_cases cj : j = s
      · subst cj
        rw [show 2 + ((nx + 1) % 6 + 6 - (j + 1) + j) % 6 = 2 + nx by omega]
        refine slr_z (slr_eqc (slr_eqc a1 q2) (clT_S M (2 + nx) c2)) (fun i hi => ?_)
        rw [eH i hi, if_pos rfl]
      · have en : 2 + ((nx + 1) % 6 + 6 - (s + 1) + j) % 6 = 2 + (nx + 6 - s + j) % 6 := by omega
        rw [en, clT_o M c2 (by omega)]
        refine slr_z (b3 j (by omega)) (fun i hi => ?_)
        rw [eH i hi, if_neg cj]
  · rw [eW, w4 _ _ _ _ _ _ _ (by omega), w4 _ _ _ _ _ _ _ (by omega)]
    unfold setS
    dsimp only
    rw [if_neg (by omega), if_neg (by omega)]
    exact a6
  · show (sets m _ _).1 7 0 0 3 = _
    unfold sets
    dsimp only
    rw [if_neg (by omega), if_neg (by omega)]
    exact a7
  · have t1 : tex (w_X5_save m s) i = tex m i := by
      show (sets m _ _).1 8 2 0 i = _
      unfold sets
      dsimp only
      rw [if_neg (by omega), if_neg (by omega)]
      rfl
    have t2 : (w_X0_save M 0).1 2 11 0 i = M.1 2 11 0 i := by
      rw [eW, w4 _ _ _ _ _ _ _ (by omega), w4 _ _ _ _ _ _ _ (by omega)]
      unfold setS
      dsimp only
      rw [if_neg (by omega), if_neg (by omega)]
    rw [t1, t2]
    exact a8 i hi
