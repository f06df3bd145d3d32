/-! the class's state g as numbers; what its deeds make of them -/
def setS (M : PM) (g : Nat) (c : Nat → Nat → Int32) : PM := (fun t k g2 i => if t = 2 ∧ g2 = g ∧ k < 11 then c k i else if t = 0 ∧ k = 0 ∧ g2 = g ∧ i = 11 then c 11 0 else M.1 t k g2 i, M.2)
/-- the numbers of state g, its ticks the eleventh -/
def clT (M : PM) (g : Nat) : Nat → Nat → Int32 := fun k i => if k < 11 then M.1 2 k g i else M.1 0 0 g 11
def up2 (c : Nat → Nat → Int32) (k i : Nat) (x : Int32) : Nat → Nat → Int32 := fun k2 i2 => if k2 = k ∧ i2 = i then x else c k2 i2
theorem cl_setS (M : PM) (g k : Nat) (c : Nat → Nat → Int32) (hk : k < 11) : cl (setS M g c) g k = c k := by
  funext i
  unfold cl setS
  dsimp only
  rw [if_pos ⟨rfl, rfl, hk⟩]
theorem setS_setS (M : PM) (g : Nat) (c c2 : Nat → Nat → Int32) : setS (setS M g c) g c2 = setS M g c2 := by
  unfold setS
  congr 1
  funext t k g2 i
  dsimp only
  by_cases h : t = 2 ∧ g2 = g ∧ k < 11
  · rw [if_pos h, if_pos h]
  · rw [if_neg h, if_neg h, if_neg h]
    by_cases h2 : t = 0 ∧ k = 0 ∧ g2 = g ∧ i = 11
    · rw [if_pos h2, if_pos h2]
    · rw [if_neg h2, if_neg h2, if_neg h2]
theorem setS_id (M : PM) (g : Nat) : setS M g (clT M g) = M := by
  obtain ⟨a, b⟩ := M
  unfold setS clT
  congr 1
  funext t k g2 i
  dsimp only
  by_cases h : t = 2 ∧ g2 = g ∧ k < 11
  · rw [if_pos h, if_pos h.2.2]; obtain ⟨rfl, rfl, _⟩ := h; rfl
  · rw [if_neg h]
    by_cases h2 : t = 0 ∧ k = 0 ∧ g2 = g ∧ i = 11
    · rw [if_pos h2, if_neg (by omega)]; obtain ⟨rfl, rfl, rfl, rfl⟩ := h2; rfl
    · rw [if_neg h2]
theorem wI_S (M : PM) (g k i : Nat) (c : Nat → Nat → Int32) (x : Int32) (hk : k < 11) : wI (setS M g c) 2 k g i x = setS M g (up2 c k i x) := by
  unfold wI setS up2
  congr 1
  funext t k2 g2 i2
  dsimp only
  by_cases h : t = 2 ∧ g2 = g ∧ k2 < 11
  · obtain ⟨rfl, rfl, h3⟩ := h
    by_cases h4 : k2 = k ∧ i2 = i
    · obtain ⟨rfl, rfl⟩ := h4
      rw [if_pos ⟨rfl, rfl, rfl, rfl⟩, if_pos ⟨rfl, rfl, hk⟩, if_pos ⟨rfl, rfl⟩]
    · rw [if_neg (fun q => h4 ⟨q.2.1, q.2.2.2⟩), if_pos ⟨rfl, rfl, h3⟩, if_pos ⟨rfl, rfl, h3⟩, if_neg h4]
  · rw [if_neg (fun q => h ⟨q.1, q.2.2.1, by omega⟩), if_neg h, if_neg h, if_neg (show ¬ (11 = k ∧ 0 = i) by omega)]
theorem wT_S (M : PM) (g : Nat) (c : Nat → Nat → Int32) (x : Int32) : wI (setS M g c) 0 0 g 11 x = setS M g (up2 c 11 0 x) := by
  unfold wI setS up2
  congr 1
  funext t k2 g2 i2
  dsimp only
  by_cases h : t = 0 ∧ k2 = 0 ∧ g2 = g ∧ i2 = 11
  · rw [if_pos h, if_neg (by omega), if_pos h, if_pos ⟨rfl, rfl⟩]
  · rw [if_neg h]
    by_cases h2 : t = 2 ∧ g2 = g ∧ k2 < 11
    · rw [if_pos h2, if_pos h2, if_neg (by omega)]
    · rw [if_neg h2, if_neg h2, if_neg h, if_neg h]
theorem tk_S (M : PM) (g : Nat) (c : Nat → Nat → Int32) : (setS M g c).1 0 0 g 11 = c 11 0 := by
  unfold setS
  dsimp only
  rw [if_neg (by omega), if_pos ⟨rfl, rfl, rfl, rfl⟩]
theorem put_S (M : PM) (g k i : Nat) (c : Nat → Nat → Int32) (x : Int32) (hk : k < 11) (hi : i < nlen k) : w_X1_put (setS M g c) k g (nI i) x = setS M g (up2 c k i x) := by rw [put_in hi, wI_S M g k i c x hk]
theorem at_S (M : PM) (g k i : Nat) (c : Nat → Nat → Int32) (hk : k < 11) (hi : i < nlen k) : v_X1_at (setS M g c) k g (nI i) = c k i := by rw [at_in hi, cl_setS M g k c hk]
theorem raise_S (M : PM) (g k i : Nat) (c : Nat → Nat → Int32) (hk : k < 11) (hi : i < nlen k) : w_X1_raise (setS M g c) k g (nI i) = setS M g (up2 c k i (c k i + 1)) := by
  unfold w_X1_raise
  rw [at_S M g k i c hk hi, put_S M g k i c _ hk hi]
/-- hand h is out of its queue, as far as hand j -/
def dqJ (c : Nat → Nat → Int32) (h j : Nat) : Nat → Nat → Int32 := fun k i => if k = 1 ∧ i = h then -1 else if k = 2 ∧ i = h then 0 else if k = 3 ∧ i < j ∧ ¬ i = h ∧ c 1 i = c 1 h ∧ ¬ c 3 i ≤ c 3 h then c 3 i - 1 else c k i
def dqC (c : Nat → Nat → Int32) (h : Nat) : Nat → Nat → Int32 := dqJ c h 8
theorem dqJ_0 (c : Nat → Nat → Int32) (h : Nat) : up2 (up2 c 1 h (-1)) 2 h 0 = dqJ c h 0 := by
  funext k i
  unfold up2 dqJ
  grind
theorem dequeue_S (M : PM) (g h : Nat) (c : Nat → Nat → Int32) (hh : h < 8) (hw : ¬ c 1 h = -1) : w_X2_dequeue (setS M g c) g (nI h) = setS M g (dqC c h) := by
  unfold w_X2_dequeue
  rw [put_S M g 1 h c (-1) (by omega) (show h < 8 from hh), put_S M g 2 h _ 0 (by omega) (show h < 8 from hh), dqJ_0]
  refine lp_inv (b_X2_dequeue_1 (setS M g c) g (nI h)) 8 (fun j s => s = setS M g (dqJ c h j)) (fun j s hj hs => ?_) 8 0 _ rfl rfl
  rw [hs]
  unfold b_X2_dequeue_1
  rw [at_S M g 1 j _ (by omega) (show j < 8 from hj), at_S M g 1 h c (by omega) (show h < 8 from hh), at_S M g 3 j _ (by omega) (show j < 8 from hj), at_S M g 3 h c (by omega) (show h < 8 from hh), put_S M g 3 j _ _ (by omega) (show j < 8 from hj)]
  have e1 : dqJ c h j 1 j = if j = h then -1 else c 1 j := by unfold dqJ; grind
  have e3 : dqJ c h j 3 j = c 3 j := by unfold dqJ; grind
  rw [e1, e3]
  by_cases c1 : j = h
  · subst c1
    rw [if_pos rfl, if_pos (fun q => hw q.symm)]
    congr 1; funext k i; unfold dqJ; grind
  · rw [if_neg c1]
    by_cases c2 : c 1 j = c 1 h
    · rw [if_neg (fun q => q c2)]
      by_cases c3 : c 3 j ≤ c 3 h
      · rw [if_pos c3]
        congr 1; funext k i; unfold dqJ; grind
      · rw [if_neg c3]
        congr 1; funext k i; unfold up2 dqJ; grind
    · rw [if_pos c2]
      congr 1; funext k i; unfold dqJ; grind
/-- the places from pl on of row r's queue are raised, as far as hand j -/
def enJ (c : Nat → Nat → Int32) (r pl j : Nat) : Nat → Nat → Int32 := fun k i => if k = 3 ∧ i < j ∧ c 1 i = nI r ∧ ¬ c 3 i < nI pl then c 3 i + 1 else c k i
def enC (c : Nat → Nat → Int32) (h r : Nat) (md : Int32) (pl : Nat) : Nat → Nat → Int32 := up2 (up2 (up2 (enJ c r pl 8) 1 h (nI r)) 2 h md) 3 h (nI pl)
def plS (M : PM) (g h r : Nat) : Int32 := if v_X1_at M 0 g (v_X4_cell M (nI h) (nI r)) ≤ 0 then v_X2_queueLength M g (nI r) else v_X2_placeForHolder M g (nI r)
theorem enqueue_S (M : PM) (g h r pl : Nat) (md : Int32) (c : Nat → Nat → Int32) (hh : h < 8) (hP : plS (setS M g c) g h r = nI pl) : w_X2_enqueue (setS M g c) g (nI h) (nI r) md = setS M g (enC c h r md pl) := by
  have e : lp (b_X2_enqueue_1 (setS M g c) g (nI h) (nI r) md) 8 0 (setS M g c) = setS M g (enJ c r pl 8) := by
    refine lp_inv (b_X2_enqueue_1 (setS M g c) g (nI h) (nI r) md) 8 (fun j s => s = setS M g (enJ c r pl j)) (fun j s hj hs => ?_) 8 0 _ rfl ?_
    · rw [hs]
      show (if ¬ v_X1_at (setS M g (enJ c r pl j)) 1 g (nI j) = nI r then setS M g (enJ c r pl j) else if v_X1_at (setS M g (enJ c r pl j)) 3 g (nI j) < plS (setS M g c) g h r then setS M g (enJ c r pl j) else w_X1_raise (setS M g (enJ c r pl j)) 3 g (nI j)) = _
      rw [hP, at_S M g 1 j _ (by omega) (show j < 8 from hj), at_S M g 3 j _ (by omega) (show j < 8 from hj), raise_S M g 3 j _ (by omega) (show j < 8 from hj)]
      have e1 : enJ c r pl j 1 j = c 1 j := by unfold enJ; grind
      have e3 : enJ c r pl j 3 j = c 3 j := by unfold enJ; grind
      rw [e1, e3]
      by_cases c2 : c 1 j = nI r
      · rw [if_neg (fun q => q c2)]
        by_cases c3 : c 3 j < nI pl
        · rw [if_pos c3]
          congr 1; funext k i; unfold enJ; grind
        · rw [if_neg c3]
          congr 1; funext k i; unfold up2 enJ; grind
      · rw [if_pos c2]
        congr 1; funext k i; unfold enJ; grind
    · congr 1; funext k i; unfold enJ; grind
  show w_X1_put (w_X1_put (w_X1_put (lp (b_X2_enqueue_1 (setS M g c) g (nI h) (nI r) md) 8 0 (setS M g c)) 1 g (nI h) (nI r)) 2 g (nI h) md) 3 g (nI h) (plS (setS M g c) g h r) = _
  rw [e, hP, put_S M g 1 h _ _ (by omega) (show h < 8 from hh), put_S M g 2 h _ _ (by omega) (show h < 8 from hh), put_S M g 3 h _ _ (by omega) (show h < 8 from hh)]
  rfl

