/-! the class, called by the law: it leaves the law's arrays alone -/
theorem cls_w {M M2 : PM} {a : Nat → Nat → Int32} (h : FRk Tc (setA M a) M2) : M2 = setA M2 a := by
  have h8 : ¬ Tc 8 := by unfold Tc; omega
  obtain ⟨x, y⟩ := M2
  unfold setA
  congr 1
  funext t k g i
  dsimp only
  by_cases q : t = 8 ∧ k < 9 ∧ g = 0
  · rw [if_pos q]
    obtain ⟨rfl, hk, rfl⟩ := q
    exact (h 8 k 0 i h8).1.trans (sA_at M a i hk)
  · rw [if_neg q]
theorem wr_MM {M M2 m : PM} {s len K : Nat} (H : WR M m s len K) (e : ∀ t k g i, t ≤ 6 → M2.1 t k g i = M.1 t k g i) : WR M2 m s len K := by
  have ec : ∀ g, clT M2 g = clT M g := fun g => by
    funext k i
    unfold clT
    split <;> exact e _ _ _ _ (by omega)
  obtain ⟨a1, a2, a3, a4, ⟨nx, b1, b2, b3⟩, a5, a6, a7, a8⟩ := H
  refine ⟨by rw [ec]; exact a1, a2, a3, by rw [e _ _ _ _ (by omega)]; exact a4, ⟨nx, b1, by rw [e _ _ _ _ (by omega)]; exact b2, fun j hj => by rw [ec]; exact b3 j hj⟩, a5, by rw [e _ _ _ _ (by omega)]; exact a6, a7, fun i hi => ?_⟩
  obtain ⟨k, k1, k2, k3, k4⟩ := a8 i hi
  exact ⟨k, k1, k2, k3, by rw [e _ _ _ _ (by omega)]; exact k4⟩
theorem wr_A {M m : PM} {a : Nat → Nat → Int32} {s len K : Nat} (H : WR (setA M a) m s len K) (a2 : Nat → Nat → Int32) : WR (setA M a2) m s len K := wr_MM H (fun t k g i ht => by rw [sA_o M a2 (by omega), sA_o M a (by omega)])
theorem rs_0 {T : Nat → Prop} : RSk T [] := fun _ h => nomatch h
theorem rs_o {st : List PV} (h : RSk Tc st) : RSk Tc (vR 3 0 0 :: st) := rs_c (show (3 : Nat) ≤ 6 by decide) h
theorem rs_i {st : List PV} {x : Int32} (h : RSk Tc st) : RSk Tc (vI x :: st) := rs_c trivial h
section
variable {M m : PM} {a : Nat → Nat → Int32} {s len K : Nat}
theorem rc_gen {MM : MI} {as : List PV} {v : Option PV} {M2 : PM} (hs : RSk Tc as) (k : Rn MM as (setA M a) v M2) (P : PM → Prop) (hP : P M2) : ∃ M1, Rn MM as (setA M a) v (setA M1 a) ∧ P (setA M1 a) := by
  have e := cls_w (fr_rn cl_Tc hs k)
  exact ⟨M2, by rw [← e]; exact k, by rw [← e]; exact hP⟩
theorem rc_ask (H : WR (setA M a) m s len K) {h r : Nat} {md : Int32} (hh : h < 8) (hr : r < 12) (hm : MO md) (cw : v_X5_waits m (nI h) = 0) : ∃ M1, Rn MX4_ask [vR 3 0 0, vI (nI h), vI (nI r), vI md] (setA M a) (some (vI (v_X5_asks (svM m s) h r md))) (setA M1 a) ∧ WR (setA M1 a) (w_X5_asks (svM m s) h r md) (svN s) len (K + 20) := by
  obtain ⟨o, w⟩ := ok_ask H hh hr hm cw
  have t := t_X4_ask (setA M a) (nI h) (nI r) md
  rw [o] at t
  exact rc_gen (rs_o (rs_i (rs_i (rs_i rs_0)))) (rn_of _ rfl t) (fun X => WR X _ _ _ _) w
theorem rc_release (H : WR (setA M a) m s len K) {h r : Nat} (hh : h < 8) (hr : r < 12) (z : ¬ v_X5_canRelease m h r = 0) : ∃ M1, Rn MX4_release [vR 3 0 0, vI (nI h), vI (nI r)] (setA M a) (some (vI (v_X5_releases (svM m s) h r))) (setA M1 a) ∧ WR (setA M1 a) (w_X5_releases (svM m s) h r) (svN s) len (K + 20) := by
  obtain ⟨o, w⟩ := ok_release H hh hr z
  have t := t_X4_release (setA M a) (nI h) (nI r)
  rw [o] at t
  exact rc_gen (rs_o (rs_i (rs_i rs_0))) (rn_of _ rfl t) (fun X => WR X _ _ _ _) w
theorem rc_giveUp (H : WR (setA M a) m s len K) {h : Nat} (hh : h < 8) (cw : ¬ v_X5_waits m (nI h) = 0) : ∃ M1, Rn MX4_giveUp [vR 3 0 0, vI (nI h)] (setA M a) (some (vI (v_X5_rowOf (svM m s) (nI h)))) (setA M1 a) ∧ WR (setA M1 a) (giveW m h s) (svN s) len (K + 20) := by
  obtain ⟨o, w⟩ := ok_giveUp H hh cw
  have t := t_X4_giveUp (setA M a) (nI h)
  rw [o] at t
  exact rc_gen (rs_o (rs_i rs_0)) (rn_of _ rfl t) (fun X => WR X _ _ _ _) w
theorem rc_handOn (H : WR (setA M a) m s len K) {h r o : Nat} (hh : h < 8) (hr : r < 12) (ho : o < 8) (z : ¬ v_X5_canHandOn m h r (nI o) = 0) : ∃ M1, Rn MX4_handOn [vR 3 0 0, vI (nI h), vI (nI r), vI (nI o)] (setA M a) (some (vI (v_X5_lockOf (hoC (svM m s) h r o) o r))) (setA M1 a) ∧ WR (setA M1 a) (w_X5_settle (hoC (svM m s) h r o) r) (svN s) len (K + 20) := by
  obtain ⟨o1, w⟩ := ok_handOn H hh hr ho z
  have t := t_X4_handOn (setA M a) (nI h) (nI r) (nI o)
  rw [o1] at t
  exact rc_gen (rs_o (rs_i (rs_i (rs_i rs_0)))) (rn_of _ rfl t) (fun X => WR X _ _ _ _) w
theorem rc_pass (H : WR (setA M a) m s len K) {k : Nat} (h1 : 1 ≤ k) (h2 : k ≤ 100) : ∃ M1, Rn MX4_pass [vR 3 0 0, vI (nI k)] (setA M a) (some (vI (zz (passW m k s) 4 - zz m 4))) (setA M1 a) ∧ WR (setA M1 a) (passW m k s) (svN s) len (K + 20) := by
  obtain ⟨o, w⟩ := ok_pass H h1 h2
  have t := t_X4_pass (setA M a) (nI k)
  rw [o] at t
  exact rc_gen (rs_o (rs_i rs_0)) (rn_of _ rfl t) (fun X => WR X _ _ _ _) w
theorem rc_set (H : WR (setA M a) m s len K) {i : Nat} {x : Int32} (hi : i < 3) (q : v_X5_isValue m (nI i) x = 1) : ∃ M1, Rn MX4_set [vR 3 0 0, vI (nI i), vI x] (setA M a) (some (vI (zz m (0 + i)))) (setA M1 a) ∧ WR (setA M1 a) (wI (svM m s) 8 0 0 (0 + i) x) (svN s) len (K + 20) := by
  obtain ⟨o, w⟩ := ok_set H hi q
  have t := t_X4_set (setA M a) (nI i) x
  rw [o] at t
  exact rc_gen (rs_o (rs_i (rs_i rs_0))) (rn_of _ rfl t) (fun X => WR X _ _ _ _) w
end
section
variable {M m : PM} {s len K : Nat}
theorem rc_lock (H : WR M m s len K) {h r : Nat} (hh : h < 8) (hr : r < 12) : Rn MX4_lock [vR 3 0 0, vI (nI h), vI (nI r)] M (some (vI (zz m (5 + 12 * h + r)))) M := by
  have t := t_X4_lock M (nI h) (nI r)
  rw [ok_lock H hh hr] at t
  exact rn_of _ rfl t
theorem rc_takers (H : WR M m s len K) {h r : Nat} (hh : h < 8) (hr : r < 12) : Rn MX4_takers [vR 3 0 0, vI (nI h), vI (nI r)] M (some (vI (v_X5_takersNow m h r))) M := by
  have t := t_X4_takers M (nI h) (nI r)
  rw [ok_takers H hh hr] at t
  exact rn_of _ rfl t
theorem rc_hand (H : WR M m s len K) {h w : Nat} (hh : h < 8) (hw : w < 9) : Rn MX4_hand [vR 3 0 0, vI (nI h), vI (nI w)] M (some (vI (v_X5_handNow m h w))) M := by
  have t := t_X4_hand M (nI h) (nI w)
  rw [ok_hand H hh hw] at t
  exact rn_of _ rfl t
theorem rc_row (H : WR M m s len K) {r w : Nat} (hr : r < 12) (hw : w < 6) : Rn MX4_row [vR 3 0 0, vI (nI r), vI (nI w)] M (some (vI (v_X5_rowNow m r (nI w)))) M := by
  have t := t_X4_row M (nI r) (nI w)
  rw [ok_row H hr hw] at t
  exact rn_of _ rfl t
theorem rc_request (H : WR M m s len K) {r p x : Nat} (hr : r < 12) (hp : p < 8) (hx : x < 2) : Rn MX4_request [vR 3 0 0, vI (nI r), vI (nI p), vI (nI x)] M (some (vI (v_X5_requestNow m r p (nI x)))) M := by
  have t := t_X4_request M (nI r) (nI p) (nI x)
  rw [ok_request H hr hp hx] at t
  exact rn_of _ rfl t
theorem rc_count (H : WR M m s len K) {w : Nat} (hw : w < 10) : Rn MX4_count [vR 3 0 0, vI (nI w)] M (some (vI (v_X5_counted m w))) M := by
  have t := t_X4_count M (nI w)
  rw [ok_count H hw] at t
  exact rn_of _ rfl t
theorem rc_waitsFor (H : WR M m s len K) {h : Nat} (hh : h < 8) : Rn MX4_waitsFor [vR 3 0 0, vI (nI h)] M (some (vI (v_X5_waitsOver m (nI h)))) M := by
  have t := t_X4_waitsFor M (nI h)
  rw [ok_waitsFor H hh] at t
  exact rn_of _ rfl t
end
