theorem thr_no {M : MI} {P Q Q2 Q3 n : Nat} {L : List (Option PV)} {m : PM} {c : Int32} (h1 : ∀ (c : Int32) (m : PM), sm_many 4 M (P, L, [vI c, vR 7 0 0], m) = some (if (wI m 7 0 0 5 c).1 7 0 0 5 ≤ 0 then Q else Q2, L, [], wI m 7 0 0 5 c)) (h2 : ∀ m : PM, sm_many n M (Q2, L, [], m) = some (Q3, L, [vI 0], m)) (h3 : ∀ m : PM, An M Q3 L [vI 0] m (.inl (some (vI 0))) m) (hc : ¬ c ≤ 0) : An M P L [vI c, vR 7 0 0] m (.inl (some (vI 0))) (wI m 7 0 0 5 c) := by
  refine an_b 4 (h1 c m) ?_
  rw [w_at]
  refine an_f hc ?_
  exact an_b n (h2 _) (h3 _)
theorem thr_go {M : MI} {P Q Q2 : Nat} {L : List (Option PV)} {m m2 : PM} {v : OC} {c : Int32} (h1 : ∀ (c : Int32) (m : PM), sm_many 4 M (P, L, [vI c, vR 7 0 0], m) = some (if (wI m 7 0 0 5 c).1 7 0 0 5 ≤ 0 then Q else Q2, L, [], wI m 7 0 0 5 c)) (hc : c = 0) (k : An M Q L [] (wI m 7 0 0 5 0) v m2) : An M P L [vI c, vR 7 0 0] m v m2 := by
  subst hc
  refine an_b 4 (h1 0 m) ?_
  rw [w_at]
  exact an_t (by decide) k

theorem no_ask (m : PM) (a1 : Int32) (a2 : Int32) (a3 : Int32) (hQ : QL m) (c : ¬ cd_ask m a1 a2 a3 ≤ 0) : Rn MX5_ask [vR 7 0 0, vI a1, vI a2, vI a3] m (some (vI 0)) (wI m 7 0 0 5 (cd_ask m a1 a2 a3)) := by
  refine rn_of [some (vR 7 0 0), some (vI a1), some (vI a2), some (vI a3)] rfl ?_
  exact k_ask m a1 a2 a3 hQ _ _ (thr_no (Q := 49) (Q2 := 47) (Q3 := 48) (n := 1) (fun _ _ => rfl) (fun _ => rfl) (fun _ => an_ret rfl rfl rfl rfl rfl) c)
theorem no_giveUp (m : PM) (a1 : Int32) (hQ : QL m) (c : ¬ cd_giveUp m a1 ≤ 0) : Rn MX5_giveUp [vR 7 0 0, vI a1] m (some (vI 0)) (wI m 7 0 0 5 (cd_giveUp m a1)) := by
  refine rn_of [some (vR 7 0 0), some (vI a1), none, none] rfl ?_
  exact k_giveUp m a1 hQ _ _ (thr_no (Q := 37) (Q2 := 35) (Q3 := 36) (n := 1) (fun _ _ => rfl) (fun _ => rfl) (fun _ => an_ret rfl rfl rfl rfl rfl) c)
theorem no_pass (m : PM) (a1 : Int32) (c : ¬ cd_pass m a1 ≤ 0) : Rn MX5_pass [vR 7 0 0, vI a1] m (some (vI 0)) (wI m 7 0 0 5 (cd_pass m a1)) := by
  refine rn_of [some (vR 7 0 0), some (vI a1), none, none, none] rfl ?_
  exact k_pass m a1  _ _ (thr_no (Q := 28) (Q2 := 26) (Q3 := 27) (n := 1) (fun _ _ => rfl) (fun _ => rfl) (fun _ => an_ret rfl rfl rfl rfl rfl) c)
theorem no_set (m : PM) (a1 : Int32) (a2 : Int32) (c : ¬ cd_set m a1 a2 ≤ 0) : Rn MX5_set [vR 7 0 0, vI a1, vI a2] m (some (vI 0)) (wI m 7 0 0 5 (cd_set m a1 a2)) := by
  refine rn_of [some (vR 7 0 0), some (vI a1), some (vI a2), none] rfl ?_
  exact k_set m a1 a2  _ _ (thr_no (Q := 37) (Q2 := 35) (Q3 := 36) (n := 1) (fun _ _ => rfl) (fun _ => rfl) (fun _ => an_ret rfl rfl rfl rfl rfl) c)
theorem no_burnsIn (m : PM) (a1 : Int32) (c : ¬ cd_burnsIn m a1 ≤ 0) : Rn MX5_burnsIn [vR 7 0 0, vI a1] m (some (vI 0)) (wI m 7 0 0 5 (cd_burnsIn m a1)) := by
  refine rn_of [some (vR 7 0 0), some (vI a1)] rfl ?_
  exact k_burnsIn m a1  _ _ (thr_no (Q := 27) (Q2 := 23) (Q3 := 32) (n := 2) (fun _ _ => rfl) (fun _ => rfl) (fun _ => an_ret rfl rfl rfl rfl rfl) c)
theorem no_ifAsked (m : PM) (a1 : Int32) (a2 : Int32) (a3 : Int32) (a4 : Int32) (c : ¬ cd_ifAsked m a1 a2 a3 a4 ≤ 0) : Rn MX5_ifAsked [vR 7 0 0, vI a1, vI a2, vI a3, vI a4] m (some (vI 0)) (wI m 7 0 0 5 (cd_ifAsked m a1 a2 a3 a4)) := by
  refine rn_of [some (vR 7 0 0), some (vI a1), some (vI a2), some (vI a3), some (vI a4)] rfl ?_
  exact k_ifAsked m a1 a2 a3 a4  _ _ (thr_no (Q := 49) (Q2 := 45) (Q3 := 58) (n := 2) (fun _ _ => rfl) (fun _ => rfl) (fun _ => an_ret rfl rfl rfl rfl rfl) c)
theorem no_release (m : PM) (h : Nat) (r : Nat) (hh : h < 8) (hr : r < 12) (hQ : QL m) (c : ¬ cd_release m h r ≤ 0) : Rn MX5_release [vR 7 0 0, vI (nI h), vI (nI r)] m (some (vI 0)) (wI m 7 0 0 5 (cd_release m h r)) := by
  refine rn_of [some (vR 7 0 0), some (vI (nI h)), some (vI (nI r))] rfl ?_
  exact k_release m h r hh hr hQ _ _ (thr_no (Q := 39) (Q2 := 37) (Q3 := 38) (n := 1) (fun _ _ => rfl) (fun _ => rfl) (fun _ => an_ret rfl rfl rfl rfl rfl) c)
theorem no_handOn (m : PM) (h : Nat) (r : Nat) (a3 : Int32) (hh : h < 8) (hr : r < 12) (hQ : QL m) (c : ¬ cd_handOn m h r a3 ≤ 0) : Rn MX5_handOn [vR 7 0 0, vI (nI h), vI (nI r), vI a3] m (some (vI 0)) (wI m 7 0 0 5 (cd_handOn m h r a3)) := by
  refine rn_of [some (vR 7 0 0), some (vI (nI h)), some (vI (nI r)), some (vI a3), none, none] rfl ?_
  exact k_handOn m h r a3 hh hr hQ _ _ (thr_no (Q := 47) (Q2 := 45) (Q3 := 46) (n := 1) (fun _ _ => rfl) (fun _ => rfl) (fun _ => an_ret rfl rfl rfl rfl rfl) c)
theorem no_cool (m : PM) (r : Nat) (hr : r < 12) (c : ¬ cd_cool m r ≤ 0) : Rn MX5_cool [vR 7 0 0, vI (nI r)] m (some (vI 0)) (wI m 7 0 0 5 (cd_cool m r)) := by
  refine rn_of [some (vR 7 0 0), some (vI (nI r)), none] rfl ?_
  exact k_cool m r hr _ _ (thr_no (Q := 37) (Q2 := 35) (Q3 := 36) (n := 1) (fun _ _ => rfl) (fun _ => rfl) (fun _ => an_ret rfl rfl rfl rfl rfl) c)
