/-! a losing hand: strip and lose agree -/
theorem mo_0 {x : Int32} (h : x = 0 ∨ MO x) (k : x ≤ 0) : x = 0 := by
  rcases h with h | rfl | rfl | rfl
  · exact h
  all_goals exact absurd k (by decide)
theorem mo_p {x : Int32} (h : x = 0 ∨ MO x) : 0 < x ↔ ¬ x ≤ 0 := by
  rcases h with rfl | rfl | rfl | rfl <;> decide
def szC (c : Nat → Nat → Int32) (h j : Nat) : Nat → Nat → Int32 := fun k i => if k = 0 ∧ 12 * h ≤ i ∧ i < 12 * h + j then 0 else c k i
theorem szC_o (c : Nat → Nat → Int32) (h j k : Nat) (hk : ¬ k = 0) : szC c h j k = c k := by
  funext i
  unfold szC
  rw [if_neg (fun q => hk q.1)]
def lkB (z : Nat → Int32) (h i : Nat) : Bool := !decide (z (5 + 12 * h + i) ≤ 0)
theorem strip_1 (M : PM) (g : Nat) {c : Nat → Nat → Int32} {z : Nat → Int32} (H : RK (c 0) z) {h : Nat} (hh : h < 8) : (lp (b_X2_strip_1 (setS M g c) g (nI h)) 12 0 ((0 : Int32), setS M g c)).2 = setS M g (szC c h 12) ∧ ∀ i, i < 32 → bit (lp (b_X2_strip_1 (setS M g c) g (nI h)) 12 0 ((0 : Int32), setS M g c)).1 i = (decide (i < 12) && lkB z h i) := by
  refine lp_inv (b_X2_strip_1 (setS M g c) g (nI h)) 12 (fun j s => s.2 = setS M g (szC c h j) ∧ ∀ i, i < 32 → bit s.1 i = (decide (i < j) && lkB z h i)) (fun j s hj hs => ?_) 12 0 _ rfl ⟨?_, fun i hi => ?_⟩
  · obtain ⟨b, s⟩ := s
    obtain ⟨e, hb⟩ := hs
    have e : s = setS M g (szC c h j) := e
    have hb : ∀ i, i < 32 → bit b i = (decide (i < j) && lkB z h i) := hb
    subst e
    unfold b_X2_strip_1
    dsimp only
    have e0 : szC c h j 0 (h * 12 + j) = c 0 (h * 12 + j) := by unfold szC; rw [if_neg (by omega)]
    obtain ⟨k1, k2⟩ := H h j hh hj
    have ez : z (5 + 12 * h + j) = c 0 (h * 12 + j) := k1.symm
    rw [cell_in, at_S M g 0 (h * 12 + j) _ (by omega) (show h * 12 + j < 96 by omega), put_S M g 0 (h * 12 + j) _ _ (by omega) (show h * 12 + j < 96 by omega), e0]
    by_cases cc : c 0 (h * 12 + j) ≤ 0
    · rw [if_pos cc, if_pos cc]
      refine ⟨?_, fun i hi => ?_⟩
      · have e1 : c 0 (h * 12 + j) = 0 := mo_0 (by rw [k1]; exact k2) cc
        congr 1
        funext k i
        unfold szC
        by_cases ci : k = 0 ∧ i = h * 12 + j
        · obtain ⟨rfl, rfl⟩ := ci
          rw [if_neg (by omega), if_pos (by omega), e1]
        · by_cases c2 : k = 0 ∧ 12 * h ≤ i ∧ i < 12 * h + j
          · rw [if_pos c2, if_pos (by omega)]
          · rw [if_neg c2, if_neg (by omega)]
      · rw [hb i hi]
        by_cases ci : i = j
        · subst ci
          have : lkB z h i = false := by unfold lkB; rw [ez, decide_eq_true cc]; rfl
          rw [this, Bool.and_false, Bool.and_false]
        · congr 1
          exact decide_eq_decide.mpr (by omega)
    · rw [if_neg cc, if_neg cc]
      refine ⟨?_, fun i hi => ?_⟩
      · congr 1
        funext k i
        unfold up2 szC
        by_cases ci : k = 0 ∧ i = h * 12 + j
        · rw [if_pos ci, if_pos (by omega)]
        · by_cases c2 : k = 0 ∧ 12 * h ≤ i ∧ i < 12 * h + j
          · rw [if_neg ci, if_pos c2, if_pos (by omega)]
          · rw [if_neg ci, if_neg c2, if_neg (by omega)]
      · rw [bit_or, hb i hi, bit_1 hi (by omega)]
        by_cases ci : i = j
        · subst ci
          have : lkB z h i = true := by unfold lkB; rw [ez, decide_eq_false cc]; rfl
          rw [this]
          simp
        · rw [decide_eq_false ci, Bool.or_false]
          congr 1
          exact decide_eq_decide.mpr (by omega)
  · show setS M g c = _
    congr 1
    funext k i
    unfold szC
    rw [if_neg (by omega)]
  · rw [bit_0]; simp
def lzz (z : Nat → Int32) (h j : Nat) : Nat → Int32 := fun i => if 5 + 12 * h ≤ i ∧ i < 5 + 12 * h + j then 0 else z i
theorem lzz_0 (z : Nat → Int32) (h : Nat) : lzz z h 0 = z := by
  funext i
  unfold lzz
  rw [if_neg (by omega)]
theorem lzz_o (z : Nat → Int32) {h j i : Nat} (hi : i < 5 + 12 * h ∨ 5 + 12 * h + j ≤ i) : lzz z h j i = z i := by
  unfold lzz
  rw [if_neg (by omega)]
theorem lzz_s (z : Nat → Int32) (h j : Nat) : upd (lzz z h j) (5 + 12 * h + j) 0 = lzz z h (j + 1) := by
  funext i
  unfold upd lzz
  by_cases ci : i = 5 + 12 * h + j
  · rw [if_pos ci, if_pos (by omega)]
  · rw [if_neg ci]
    by_cases c2 : 5 + 12 * h ≤ i ∧ i < 5 + 12 * h + j
    · rw [if_pos c2, if_pos (by omega)]
    · rw [if_neg c2, if_neg (by omega)]
theorem uqz_upd (z : Nat → Int32) {r p n k i : Nat} (v : Int32) (hr : r < 12) (hk : k ≤ 8) (hi : i < 125) : upd (uqz z r p n k) i v = uqz (upd z i v) r p n k := by
  funext j
  unfold upd uqz
  dsimp only
  by_cases c : j = i
  · rw [if_pos c, if_neg (by omega), if_neg (by omega), if_neg (by omega), if_pos c]
  · rw [if_neg c, if_neg c]
    by_cases c1 : j = 125 + r
    · rw [if_pos c1, if_pos c1]
    · rw [if_neg c1, if_neg c1]
      by_cases c2 : 137 + 8 * r + p ≤ j ∧ j < 137 + 8 * r + k
      · rw [if_pos c2, if_pos c2, if_neg (by omega)]
      · rw [if_neg c2, if_neg c2]
        by_cases c3 : 233 + 8 * r + p ≤ j ∧ j < 233 + 8 * r + k
        · rw [if_pos c3, if_pos c3, if_neg (by omega)]
        · rw [if_neg c3, if_neg c3]
/-- one row of the losing hand's, over the row of numbers z -/
theorem lose_s (m m0 : PM) (z : Nat → Int32) (h j : Nat) (b : Int32) : b_X5_lose_1 m0 h j (b, setz m z) = ((if 0 < z (5 + 12 * h + j) then (1 : Int32) <<< (nI j &&& (31 : Int32)) else if v_X5_placeIn (setz m z) (nI h) j = (-1 : Int32) then 0 else (1 : Int32) <<< (nI j &&& (31 : Int32))) ||| b, setz m (if v_X5_placeIn (setz m z) (nI h) j = (-1 : Int32) then upd z (5 + 12 * h + j) 0 else uqz (upd z (5 + 12 * h + j) 0) j (plcN (setz m z) (nI h) j) (qn (setz m (upd z (5 + 12 * h + j) 0)) j) (qn (setz m (upd z (5 + 12 * h + j) 0)) j - 1))) := by
  unfold b_X5_lose_1 w_X5_unqueue
  dsimp only
  have e1 : v_X5_lockOf (setz m z) h j = z (5 + 12 * h + j) := zs m z _
  have e2 : w_X5_setLock (setz m z) h j 0 = setz m (upd z (5 + 12 * h + j) 0) := wI_setz2 _ _ _ _
  rw [e1, e2, zz_setz, setz_setz]
  by_cases c : v_X5_placeIn (setz m z) (nI h) j = -1
  · simp only [if_pos c]
  · simp only [if_neg c]
theorem lose_1n {m : PM} {c : Nat → Nat → Int32} (H : SA c (zz m)) {h : Nat} (hh : h < 8) (hw : c 1 h = -1) : (lose_1 m h).2 = setz m (lzz (zz m) h 12) ∧ ∀ i, i < 32 → bit (lose_1 m h).1 i = (decide (i < 12) && lkB (zz m) h i) := by
  unfold lose_1
  refine lp_inv (b_X5_lose_1 m h) 12 (fun j s => s.2 = setz m (lzz (zz m) h j) ∧ ∀ i, i < 32 → bit s.1 i = (decide (i < j) && lkB (zz m) h i)) (fun j s hj hs => ?_) 12 0 _ rfl ⟨?_, fun i hi => ?_⟩
  · obtain ⟨b, s⟩ := s
    obtain ⟨e, hb⟩ := hs
    have e : s = setz m (lzz (zz m) h j) := e
    have hb : ∀ i, i < 32 → bit b i = (decide (i < j) && lkB (zz m) h i) := hb
    subst e
    rw [lose_s]
    have hp : v_X5_placeIn (setz m (lzz (zz m) h j)) (nI h) j = -1 := by
      rw [placeIn_R (rr := c 1) (rm := c 2) (rp := c 3) (by rw [zz_setz]; exact rq_z H.2.1 (fun i a b => lzz_o _ (by omega))) hh hj, if_neg]
      rw [hw]
      exact fun q => nI_nm1 (show j < 2 ^ 31 by omega) q.symm
    have el : lzz (zz m) h j (5 + 12 * h + j) = zz m (5 + 12 * h + j) := lzz_o _ (by omega)
    rw [hp, if_pos rfl, if_pos rfl, lzz_s, el]
    refine ⟨rfl, fun i hi => ?_⟩
    have kl := (H.1 h j hh hj).2
    rw [bit_or, hb i hi]
    by_cases ci : i = j
    · subst ci
      by_cases cl : zz m (5 + 12 * h + i) ≤ 0
      · have : lkB (zz m) h i = false := by unfold lkB; rw [decide_eq_true cl]; rfl
        rw [if_neg (fun q => (mo_p kl).mp q cl), bit_0, this]; simp
      · have : lkB (zz m) h i = true := by unfold lkB; rw [decide_eq_false cl]; rfl
        rw [if_pos ((mo_p kl).mpr cl), bit_1 hi hi, this]; simp
    · have e2 : decide (i < j + 1) = decide (i < j) := decide_eq_decide.mpr (by omega)
      rw [e2]
      have e3 : bit (if 0 < zz m (5 + 12 * h + j) then (1 : Int32) <<< (nI j &&& (31 : Int32)) else 0) i = false := by
        split
        · rw [bit_1 hi (by omega)]; simp [ci]
        · exact bit_0 i
      rw [e3, Bool.false_or]
  · show m = _
    rw [lzz_0, setz_zz]
  · rw [bit_0]; simp
theorem lose_1w {m : PM} {c : Nat → Nat → Int32} (H : SA c (zz m)) {h r n p : Nat} (hh : h < 8) (hr : r < 12) (hn : zz m (125 + r) = nI n) (h8 : n ≤ 8) (hp : p < n) (e1 : c 1 h = nI r) (e2 : c 3 h = nI p) : (lose_1 m h).2 = setz m (uqz (lzz (zz m) h 12) r p n (n - 1)) ∧ ∀ i, i < 32 → bit (lose_1 m h).1 i = (decide (i < 12) && (lkB (zz m) h i || decide (i = r))) := by
  have K : (lose_1 m h).2 = setz m (if r < 12 then uqz (lzz (zz m) h 12) r p n (n - 1) else lzz (zz m) h 12) ∧ ∀ i, i < 32 → bit (lose_1 m h).1 i = (decide (i < 12) && (lkB (zz m) h i || decide (i = r))) := by
    unfold lose_1
    refine lp_inv (b_X5_lose_1 m h) 12 (fun j s => s.2 = setz m (if r < j then uqz (lzz (zz m) h j) r p n (n - 1) else lzz (zz m) h j) ∧ ∀ i, i < 32 → bit s.1 i = (decide (i < j) && (lkB (zz m) h i || decide (i = r)))) (fun j s hj hs => ?_) 12 0 _ rfl ⟨?_, fun i hi => ?_⟩
    · obtain ⟨b, s⟩ := s
      obtain ⟨e, hb⟩ := hs
      have e : s = setz m (if r < j then uqz (lzz (zz m) h j) r p n (n - 1) else lzz (zz m) h j) := e
      have hb : ∀ i, i < 32 → bit b i = (decide (i < j) && (lkB (zz m) h i || decide (i = r))) := hb
      subst e
      rw [lose_s]
      have Q : RQ (c 1) (c 2) (c 3) (lzz (zz m) h j) := rq_z H.2.1 (fun i a b => lzz_o _ (by omega))
      have N : lzz (zz m) h j (125 + r) = nI n := by rw [lzz_o _ (by omega)]; exact hn
      have el : (if r < j then uqz (lzz (zz m) h j) r p n (n - 1) else lzz (zz m) h j) (5 + 12 * h + j) = zz m (5 + 12 * h + j) := by
        split
        · rw [uqz_lo _ hr (by omega) (by omega)]; exact lzz_o _ (by omega)
        · exact lzz_o _ (by omega)
      rw [el]
      have kl := (H.1 h j hh hj).2
      by_cases cj : j = r
      · subst cj
        rw [if_neg (show ¬ j < j by omega)]
        have hpl : v_X5_placeIn (setz m (lzz (zz m) h j)) (nI h) j = nI p := by
          rw [placeIn_R (rr := c 1) (rm := c 2) (rp := c 3) (by rw [zz_setz]; exact Q) hh hr, if_pos e1, e2]
        have hpn : plcN (setz m (lzz (zz m) h j)) (nI h) j = p := by unfold plcN; rw [hpl]; exact nI_clamp (by omega)
        have hq : qn (setz m (upd (lzz (zz m) h j) (5 + 12 * h + j) 0)) j = n := qn_of (by rw [zz_setz, upd_o _ _ _ (by omega)]; exact N) h8
        rw [hpn, hq, hpl, if_neg (nI_nm1 (by omega)), if_neg (nI_nm1 (by omega)), lzz_s, if_pos (show j < j + 1 by omega)]
        refine ⟨rfl, fun i hi => ?_⟩
        have e5 : (if 0 < zz m (5 + 12 * h + j) then (1 : Int32) <<< (nI j &&& (31 : Int32)) else (1 : Int32) <<< (nI j &&& (31 : Int32))) = (1 : Int32) <<< (nI j &&& (31 : Int32)) := by split <;> rfl
        rw [e5, bit_or, hb i hi, bit_1 hi (by omega)]
        by_cases ci : i = j
        · subst ci; simp
        · have e2 : decide (i < j + 1) = decide (i < j) := decide_eq_decide.mpr (by omega)
          rw [e2, decide_eq_false ci, Bool.false_or]
      · have hpl : v_X5_placeIn (setz m (if r < j then uqz (lzz (zz m) h j) r p n (n - 1) else lzz (zz m) h j)) (nI h) j = -1 := by
          by_cases cl : r < j
          · rw [if_pos cl, placeIn_R (rr := dqC c h 1) (rm := dqC c h 2) (rp := dqC c h 3) (by rw [zz_setz]; exact rq_dq Q hh hr N h8 hp e1 e2) hh hj, if_neg]
            rw [dqC_1, if_pos rfl]
            exact fun q => nI_nm1 (show j < 2 ^ 31 by omega) q.symm
          · rw [if_neg cl, placeIn_R (rr := c 1) (rm := c 2) (rp := c 3) (by rw [zz_setz]; exact Q) hh hj, if_neg]
            rw [e1]
            exact fun q => cj ((nI_eq (by omega) (by omega)).mp q).symm
        rw [hpl, if_pos rfl, if_pos rfl]
        refine ⟨?_, fun i hi => ?_⟩
        · dsimp only
          congr 1
          by_cases cl : r < j
          · rw [if_pos cl, if_pos (by omega), uqz_upd _ _ hr (by omega) (by omega), lzz_s]
          · rw [if_neg cl, if_neg (by omega), lzz_s]
        · rw [bit_or, hb i hi]
          by_cases ci : i = j
          · subst ci
            by_cases cl : zz m (5 + 12 * h + i) ≤ 0
            · have : lkB (zz m) h i = false := by unfold lkB; rw [decide_eq_true cl]; rfl
              rw [if_neg (fun q => (mo_p kl).mp q cl), bit_0, this, decide_eq_false cj]; simp
            · have : lkB (zz m) h i = true := by unfold lkB; rw [decide_eq_false cl]; rfl
              rw [if_pos ((mo_p kl).mpr cl), bit_1 hi hi, this]; simp
          · have e2 : decide (i < j + 1) = decide (i < j) := decide_eq_decide.mpr (by omega)
            rw [e2]
            have e3 : bit (if 0 < zz m (5 + 12 * h + j) then (1 : Int32) <<< (nI j &&& (31 : Int32)) else 0) i = false := by
              split
              · rw [bit_1 hi (by omega)]; simp [ci]
              · exact bit_0 i
            rw [e3, Bool.false_or]
    · show m = _
      rw [if_neg (by omega), lzz_0, setz_zz]
    · rw [bit_0]; simp
  rw [if_pos hr] at K
  exact K

