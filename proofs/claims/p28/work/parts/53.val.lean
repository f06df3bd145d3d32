/-! values that agree -/
theorem lp_cong {σ : Type} {f f2 : Nat → σ → σ} (N : Nat) (h : ∀ j s, j < N → f j s = f2 j s) : ∀ n j s, n + j = N → lp f n j s = lp f2 n j s := by
  intro n
  induction n with
  | zero => intro j s _; rw [lp_0, lp_0]
  | succ n ih =>
    intro j s e
    rw [lp_s, lp_s, h j s (by omega)]
    exact ih (j + 1) _ (by omega)
/-- state g of the class and the model's row, in locks and queues -/
def RG (M m : PM) (g : Nat) : Prop := RK (cl M g 0) (zz m) ∧ RQ (cl M g 1) (cl M g 2) (cl M g 3) (zz m)
section
variable {M m : PM} {g : Nat}
theorem lock_R (hR : RG M m g) {h r : Nat} (hh : h < 8) (hr : r < 12) : v_X1_at M 0 g (v_X4_cell M (nI h) (nI r)) = v_X5_lockOf m h r := by
  rw [lk_in hh hr]
  exact (hR.1 h r hh hr).1
theorem holders_R (hR : RG M m g) {r : Nat} (hr : r < 12) : v_X2_holders M g (nI r) = v_X5_holders m r := by
  unfold v_X2_holders v_X5_holders
  refine lp_cong 8 (fun j s hj => ?_) 8 0 0 rfl
  unfold b_X2_holders_1 b_X5_holders_1
  rw [lock_R hR hj hr]
  split
  · exact Int32.or_zero.symm
  · rfl
theorem greatest_R (hR : RG M m g) {r : Nat} (hr : r < 12) : v_X2_greatestMode M g (nI r) = v_X5_greatestOf m r := by
  unfold v_X2_greatestMode v_X5_greatestOf
  refine lp_cong 8 (fun j s hj => ?_) 8 0 0 rfl
  unfold b_X2_greatestMode_1 b_X5_greatestOf_1
  rw [lock_R hR hj hr]
  by_cases c : s < v_X5_lockOf m j r
  · rw [if_pos c, if_neg (Int32.not_le.mpr c)]
  · rw [if_neg c, if_pos (Int32.not_lt.mp c)]
theorem work_R (hR : RG M m g) {h : Nat} (hh : h < 8) : v_X2_work M g (nI h) = v_X5_workOf m h := by
  unfold v_X2_work v_X5_workOf
  refine lp_cong 12 (fun j s hj => ?_) 12 0 0 rfl
  unfold b_X2_work_1 b_X5_workOf_1
  rw [lock_R hR hh hj]
theorem locksOf_R (hR : RG M m g) {h : Nat} (hh : h < 8) : v_X2_locksOf M g (nI h) = v_X5_locksOf m h := by
  unfold v_X2_locksOf v_X5_locksOf
  refine lp_cong 12 (fun j s hj => ?_) 12 0 0 rfl
  unfold b_X2_locksOf_1 b_X5_locksOf_1
  rw [lock_R hR hh hj]
  split
  · exact (Int32.add_zero s).symm
  · rfl
theorem lockCount_R (hR : RG M m g) : v_X2_lockCount M g = v_X5_allLocks m := by
  unfold v_X2_lockCount v_X5_allLocks
  refine lp_cong 8 (fun j s hj => ?_) 8 0 0 rfl
  unfold b_X2_lockCount_1 b_X5_allLocks_1
  rw [locksOf_R hR hj]
theorem canRelease_R (hR : RG M m g) {h r : Nat} (hh : h < 8) (hr : r < 12) : v_X2_canLetGo M g (nI h) (nI r) = v_X5_canRelease m h r := by
  unfold v_X2_canLetGo v_X5_canRelease
  rw [lock_R hR hh hr, rowOf_R hR.2 hh, at_in (k := 1) (show h < 8 from hh)]
/-- a lock of those that clash -/
def clB (m : PM) (r : Nat) (md but : Int32) (j : Nat) : Bool := if nI j = but then false else if v_X5_lockOf m j r ≤ 0 then false else if v_X5_lockOf m j r + md ≤ 3 then false else true
theorem bit_clash (m : PM) (r : Nat) (md but : Int32) (i : Nat) (hi : i < 32) : bit (v_X5_clashing m r md but) i = (decide (i < 8) && clB m r md but i) := by
  unfold v_X5_clashing
  rw [bit_lp (b_X5_clashing_1 m r md but) (clB m r md but) 8 (by omega) (fun j s i hj hi => ?_) 8 0 0 rfl i hi, bit_0]
  · simp
  · unfold b_X5_clashing_1 clB
    rw [bit_or]
    (repeat' split) <;> first | (rw [bit_0]; simp) | (rw [bit_1 hi (by omega)]; simp)
end
