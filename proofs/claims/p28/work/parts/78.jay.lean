/-! what is kept true of the model's row -/
def JZ (z : Nat → Int32) : Prop := ∃ c, SA c z ∧ BC c
theorem sa_cong {c : Nat → Nat → Int32} {z z2 : Nat → Int32} (H : SA c z) (e : ∀ i, i < 361 → z2 i = z i) : SA c z2 := ⟨rk_z H.1 (fun i _ b => e i (by omega)), rq_z H.2.1 (fun i _ b => e i (by omega)), sc_z H.2.2.1 (fun i b => e i (by omega)), hf_z H.2.2.2 H.2.1 (fun i _ b => e i (by omega)) (fun i _ b => e i (by omega))⟩
theorem wait_c {m : PM} {c : Nat → Nat → Int32} (H : SA c (zz m)) {h : Nat} (hh : h < 8) : v_X5_waits m (nI h) = 0 ↔ c 1 h = -1 := by
  unfold v_X5_waits
  rw [rowOf_R H.2.1 hh]
  by_cases q : c 1 h = -1
  · rw [if_pos q]; exact ⟨fun _ => q, fun _ => rfl⟩
  · rw [if_neg q]; exact ⟨fun u => absurd u (by decide), fun u => absurd u q⟩
theorem can_c {m : PM} {c : Nat → Nat → Int32} (H : SA c (zz m)) {h r : Nat} (hh : h < 8) (k : ¬ v_X5_canRelease m h r = 0) : ¬ c 1 h = nI r := by
  unfold v_X5_canRelease at k
  rw [rowOf_R H.2.1 hh] at k
  intro q
  rw [if_pos q] at k
  split at k <;> exact k rfl
/-! the counts -/
def sumN (f : Nat → Nat) : Nat → Nat
  | 0 => 0
  | N + 1 => sumN f N + f N
theorem sumN_s (f : Nat → Nat) (N : Nat) : sumN f (N + 1) = sumN f N + f N := rfl
theorem sumN_cong {f f2 : Nat → Nat} : ∀ N, (∀ i, i < N → f i = f2 i) → sumN f N = sumN f2 N := by
  intro N
  induction N with
  | zero => intro _; rfl
  | succ N ih => intro h; rw [sumN_s, sumN_s, ih (fun i hi => h i (by omega)), h N (by omega)]
theorem sumN_add (f f2 : Nat → Nat) : ∀ N, sumN (fun i => f i + f2 i) N = sumN f N + sumN f2 N := by
  intro N
  induction N with
  | zero => rfl
  | succ N ih => rw [sumN_s, sumN_s, sumN_s, ih]; omega
theorem sumN_0 : ∀ N, sumN (fun _ => 0) N = 0 := by
  intro N
  induction N with
  | zero => rfl
  | succ N ih => rw [sumN_s, ih]
theorem cnt_sum (P : Nat → Bool) : ∀ N, cntP P N = sumN (fun h => if P h then 1 else 0) N := by
  intro N
  induction N with
  | zero => rfl
  | succ N ih => rw [cntP_s, sumN_s, ih]
theorem sum_swap (F : Nat → Nat → Nat) (R : Nat) : ∀ N, sumN (fun r => sumN (F r) N) R = sumN (fun h => sumN (fun r => F r h) R) N := by
  intro N
  induction N with
  | zero => exact sumN_0 R
  | succ N ih =>
    rw [sumN_s, ← ih, ← sumN_add]
    exact sumN_cong R (fun i _ => rfl)
theorem lp_sum (f : Nat → Int32) (n : Nat → Nat) (N : Nat) (h : ∀ i, i < N → f i = nI (n i)) : lp (fun j s => s + f j) N 0 0 = nI (sumN n N) := by
  refine lp_inv (fun j s => s + f j) N (fun j s => s = nI (sumN n j)) (fun j s hj hs => ?_) N 0 0 (Nat.add_zero _) rfl
  show s + f j = _
  rw [hs, h j hj, sumN_s, nI_add]
theorem all_wait {rr rm rp z : Nat → Int32} (H : RQ rr rm rp z) (n : Nat → Nat) (hn : ∀ r, r < 12 → z (125 + r) = nI (n r) ∧ n r ≤ 8) : sumN n 12 = cntP (fun h => !decide (rr h = -1)) 8 := by
  have e : sumN n 12 = sumN (fun r => sumN (fun h => if decide (rr h = nI r) then 1 else 0) 8) 12 := sumN_cong 12 (fun r hr => by rw [← cnt_sum, row_cnt H hr (hn r hr).1 (hn r hr).2])
  rw [e, sum_swap (fun r h => if decide (rr h = nI r) then 1 else 0) 12 8, cnt_sum]
  refine sumN_cong 8 (fun h hh => ?_)
  rw [← cnt_sum (fun r => decide (rr h = nI r)) 12]
  by_cases cw : rr h = -1
  · rw [if_neg (by simp [cw])]
    refine cntP_0 _ 12 (fun r hr => decide_eq_false ?_)
    rw [cw]
    exact fun q => nI_nm1 (show r < 2 ^ 31 by omega) q.symm
  · obtain ⟨r, hr, er⟩ := rq_r H hh cw
    rw [if_pos (by simp [cw]), cntP_rm (fun r => decide (rr h = nI r)) r (decide_eq_true er) 12, if_pos hr, cntP_0 _ 12 (fun i hi => ?_)]
    by_cases q : i = r
    · subst q; simp
    · have : ¬ rr h = nI i := fun u => q (by rw [er] at u; exact ((nI_eq (by omega) (by omega)).mp u).symm)
      simp [this]
theorem waiting_R (M m : PM) (g : Nat) {c : Nat → Nat → Int32} (H : SA c (zz m)) : v_X2_waitingCount (setS M g c) g = nI (cntW c) ∧ v_X5_sumFrom m 125 12 = nI (cntW c) := by
  constructor
  · refine lp_inv (b_X2_waitingCount_1 (setS M g c) g) 8 (fun j s => s = nI (cntP (fun h => !decide (c 1 h = -1)) j)) (fun j s hj hs => ?_) 8 0 0 rfl rfl
    unfold b_X2_waitingCount_1 v_X2_isWaiting
    rw [at_S M g 1 j c (by omega) (show j < 8 from hj), cntP_s]
    by_cases cw : c 1 j = -1
    · rw [if_pos cw, if_pos rfl, if_neg (by simp [cw]), hs]
      rfl
    · rw [if_neg cw, if_neg (by decide), if_pos (by simp [cw]), hs, nI_1]
  · have e : v_X5_sumFrom m 125 12 = lp (fun j s => s + zz m (125 + j)) 12 0 0 := rfl
    have hn : ∀ r, r < 12 → zz m (125 + r) = nI (qn m r) ∧ qn m r ≤ 8 := fun r hr => by
      obtain ⟨n, h1, h2, _⟩ := H.2.1.1 r hr
      rw [qn_of h2 h1]
      exact ⟨h2, h1⟩
    rw [e, lp_sum _ (qn m) 12 (fun r hr => (hn r hr).1), all_wait H.2.1 (qn m) hn]
    rfl
theorem sum_R (M m : PM) (g : Nat) {c : Nat → Nat → Int32} (H : SA c (zz m)) {k : Nat} (h4 : 4 ≤ k) (h10 : k ≤ 10) : v_X1_sum (setS M g c) k g = v_X5_sumFrom m (zof k) (nlen k) := by
  unfold v_X1_sum v_X5_sumFrom
  refine lp_cong (nlen k) (fun j s hj => ?_) (nlen k) 0 0 (Nat.add_zero _)
  unfold b_X5_sumFrom_1
  rw [show (setS M g c).1 2 k g j = c k j from congrFun (cl_setS M g k c (by omega)) j, H.2.2.1.1 k j h4 h10 hj]
  rfl
theorem total_R (M m : PM) (g : Nat) {c : Nat → Nat → Int32} (H : SA c (zz m)) {w : Nat} (hw : w < 9) : v_X2_total (setS M g c) g (nI w) = v_X5_counted m w := by
  have hR := sa_rgm M m g H
  unfold v_X2_total v_X5_counted
  rw [lockCount_R hR, (waiting_R M m g H).1, (waiting_R M m g H).2, tk_S, sum_R M m g H (k := 7) (by omega) (by omega), sum_R M m g H (k := 5) (by omega) (by omega), sum_R M m g H (k := 8) (by omega) (by omega), sum_R M m g H (k := 9) (by omega) (by omega), heldRows_R hR, H.2.2.1.2.1]
  have e6 : v_X1_sum (setS M g c) 6 g = m.1 8 0 0 4 := by
    have k : v_X1_sum (setS M g c) 6 g = bsum (c 6) := by
      unfold v_X1_sum bsum
      refine lp_cong 8 (fun j s hj => ?_) 8 0 0 rfl
      rw [show (setS M g c).1 2 6 g j = c 6 j from congrFun (cl_setS M g 6 c (by omega)) j]
    rw [k]
    exact H.2.2.1.2.2.symm
  rw [e6]
  have h9 : ¬ nI w = nI 9 := fun q => by have := (nI_eq (by omega) (by omega)).mp q; omega
  by_cases c8 : nI w = nI 8
  · rw [if_pos c8]; rfl
  · have : w = 0 ∨ w = 1 ∨ w = 2 ∨ w = 3 ∨ w = 4 ∨ w = 5 ∨ w = 6 ∨ w = 7 := by
      have : ¬ w = 8 := fun q => c8 (by rw [q])
      omega
    rcases this with rfl | rfl | rfl | rfl | rfl | rfl | rfl | rfl <;> rfl
theorem handPart_R (M m : PM) (g : Nat) {c : Nat → Nat → Int32} (H : SA c (zz m)) {h w : Nat} (hh : h < 8) (hw : w < 9) : v_X2_handPart (setS M g c) g (nI h) (nI w) = v_X5_handNow m h w := by
  have hR := sa_rgm M m g H
  unfold v_X2_handPart v_X5_handNow
  have e1 := at_S M g 1 h c (by omega) (show h < 8 from hh)
  have e2 := at_S M g 2 h c (by omega) (show h < 8 from hh)
  have hro := rowOf_R H.2.1 hh
  have e3 : (if ¬ v_X5_rowOf m (nI h) = (-1 : Int32) then v_X5_modeAt m (rowN m (nI h)) (plcN m (nI h) (rowN m (nI h))) else 0) = c 2 h := by
    rw [hro]
    by_cases cw : c 1 h = -1
    · rw [if_neg (fun q => q cw)]
      rcases H.2.1.2 h hh with q | ⟨r, n, p, h1, _, _, _, h5, _⟩
      · exact q.2.symm
      · rw [cw] at h5; exact absurd h5.symm (nI_nm1 (by omega))
    · obtain ⟨r, hr, er⟩ := rq_r H.2.1 hh cw
      have eN : rowN m (nI h) = r := by unfold rowN; rw [hro, er]; exact nI_clamp (by omega)
      rw [if_pos cw, eN]
      have k := (mode_R hR hh hr (by rw [cl_setS M g 1 c (by omega)]; exact er)).1
      rw [cl_setS M g 2 c (by omega)] at k
      exact k
  have a6 : v_X1_at (setS M g c) 6 g (nI h) = zz m (329 + h) := (at_S M g 6 h c (by omega) (show h < 8 from hh)).trans (H.2.2.1.1 6 h (by omega) (by omega) (show h < 8 from hh))
  have a7 : v_X1_at (setS M g c) 7 g (nI h) = zz m (337 + h) := (at_S M g 7 h c (by omega) (show h < 8 from hh)).trans (H.2.2.1.1 7 h (by omega) (by omega) (show h < 8 from hh))
  have a8 : v_X1_at (setS M g c) 8 g (nI h) = zz m (345 + h) := (at_S M g 8 h c (by omega) (show h < 8 from hh)).trans (H.2.2.1.1 8 h (by omega) (by omega) (show h < 8 from hh))
  have a9 : v_X1_at (setS M g c) 9 g (nI h) = zz m (353 + h) := (at_S M g 9 h c (by omega) (show h < 8 from hh)).trans (H.2.2.1.1 9 h (by omega) (by omega) (show h < 8 from hh))
  rw [locksOf_R hR hh, work_R hR hh, direct_R hR hh, e3, e1, e2, hro, a6, a7, a8, a9]
  have : w = 0 ∨ w = 1 ∨ w = 2 ∨ w = 3 ∨ w = 4 ∨ w = 5 ∨ w = 6 ∨ w = 7 ∨ w = 8 := by omega
  rcases this with rfl | rfl | rfl | rfl | rfl | rfl | rfl | rfl | rfl <;> rfl
theorem rowPart_R (M m : PM) (g : Nat) {c : Nat → Nat → Int32} (H : SA c (zz m)) {r : Nat} (hr : r < 12) (w : Int32) : v_X2_rowPart (setS M g c) g (nI r) w = v_X5_rowNow m r w := by
  have hR := sa_rgm M m g H
  unfold v_X2_rowPart v_X5_rowNow
  have a4 : v_X1_at (setS M g c) 4 g (nI r) = zz m (101 + r) := (at_S M g 4 r c (by omega) (show r < 12 from hr)).trans (H.2.2.1.1 4 r (by omega) (by omega) (show r < 12 from hr))
  have a5 : v_X1_at (setS M g c) 5 g (nI r) = zz m (113 + r) := (at_S M g 5 r c (by omega) (show r < 12 from hr)).trans (H.2.2.1.1 5 r (by omega) (by omega) (show r < 12 from hr))
  have q := queueLength_R hR hr
  rw [a4, a5, greatest_R hR hr, holders_R hR hr, q.1, ← q.2, first_R hR hr]
  rfl
