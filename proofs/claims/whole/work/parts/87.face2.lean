/-! the face: pass, cool, set, append, run, undo -/
theorem wh_or (m : PM) (a : Int32) (n : Nat) (hn : n + 1 < 2 ^ 31) : ((a < 0 ∨ (¬ a < 0 ∧ ¬ a < nI (n + 1))) ∧ v_X5_within m a 0 (nI n) = 0) ∨ ∃ j, j < n + 1 ∧ a = nI j ∧ ¬ a < 0 ∧ a < nI (n + 1) ∧ v_X5_within m a 0 (nI n) = 1 := by
  unfold v_X5_within
  rcases pk_ix a hn with h | h | ⟨j, hj, rfl⟩
  · rw [if_pos h]; exact Or.inl ⟨Or.inl h, rfl⟩
  · by_cases c : a < 0
    · rw [if_pos c]; exact Or.inl ⟨Or.inl c, rfl⟩
    · rw [if_neg c, if_pos (lt_le h hn)]
      exact Or.inl ⟨Or.inr ⟨c, Int32.not_lt.mpr h⟩, rfl⟩
  · rw [if_neg (nI_pos (by omega)), if_neg (nI_nlt (by omega) (by omega))]
    exact Or.inr ⟨j, hj, rfl, nI_pos (by omega), nI_lt hj hn, rfl⟩
section
variable {M m : PM} {s len K : Nat}
theorem face_pass (H : WR M m s len K) (a1 : Int32) : ∃ b m2 s2 l2, Rn MX5_pass [vR 7 0 0, vI a1] m (some (vI b)) m2 ∧ WR (w_X4_pass M a1) m2 s2 l2 (K + 20) ∧ AG (e3 0 1 0) (o_X4_pass M a1) (m2.1 7 0 0 5) b := by
  have no : o_X4_pass M a1 = .inr 50 → w_X4_pass M a1 = M → cd_pass m a1 = 1 → ∃ b m2 s2 l2, Rn MX5_pass [vR 7 0 0, vI a1] m (some (vI b)) m2 ∧ WR (w_X4_pass M a1) m2 s2 l2 (K + 20) ∧ AG (e3 0 1 0) (o_X4_pass M a1) (m2.1 7 0 0 5) b := fun ho hw hc => ⟨_, _, s, len, no_pass m a1 (by rw [hc]; decide), by rw [hw]; exact wr_le (wr_5 H _) (by omega), Or.inr ⟨50, ho, by rw [w_at, hc]; rfl, Or.inr (Or.inl rfl)⟩⟩
  by_cases c1 : a1 < 1
  · exact no (by unfold o_X4_pass; rw [if_pos c1]) (by unfold w_X4_pass; rw [if_pos c1]) (by unfold cd_pass v_X5_within; rw [if_pos c1, if_pos rfl])
  by_cases c2 : (100 : Int32) < a1
  · have c2' : ¬ a1 ≤ 100 := Int32.not_le.mpr c2
    exact no (by unfold o_X4_pass; rw [if_neg c1, if_neg c2']) (by unfold w_X4_pass; rw [if_neg c1, if_neg c2']) (by unfold cd_pass v_X5_within; rw [if_neg c1, if_pos c2, if_pos rfl])
  obtain ⟨k, h1, h2, rfl⟩ := nI_le2 (a := 1) (b := 100) (by omega) (by omega) c1 c2
  have c2' : nI k ≤ 100 := Int32.not_lt.mp c2
  have hc : cd_pass m (nI k) = 0 := by unfold cd_pass v_X5_within; rw [if_neg c1, if_neg c2, if_neg (by decide)]
  have r := go_pass m k s h2 (wr_qa H) H.2.1 H.2.2.1 hc
  obtain ⟨W, t0⟩ := sv_W H
  have a := lp_rel (b_X4_pass_1 M (nI k)) b_X5_pass_1 k (fun _ x t => WR x.2 t (svN s) len K ∧ x.1 = zz t 4 - zz m 4 ∧ t.1 7 0 0 5 = 0) (fun j x t hj hs => by
    obtain ⟨x1, x2⟩ := x
    obtain ⟨V, e, t5⟩ := hs
    have V : WR x2 t (svN s) len K := V
    have e : x1 = zz t 4 - zz m 4 := e
    obtain ⟨c2, w1, w2, w3, w4, w5⟩ := tick_R x2 t 0 V.1.1 V.1.2.1
    rw [setS_id] at w1 w5
    have o := oz_tick t
    unfold b_X4_pass_1 b_X5_pass_1
    dsimp only
    refine ⟨?_, ?_, ?_⟩
    · rw [w1]
      exact wr_oz V ⟨w2, w3, w4 K V.1.2.2⟩ (Nat.le_refl _) o
    · rw [w5, e]; grind
    · rw [o.1 7 0 0 5 (by omega)]; exact t5) k 0 ((0 : Int32), w_X0_save M 0) (svM m s) (Nat.add_zero _) ⟨W, by rw [zz_svM]; exact (Int32.sub_self _).symm, t0⟩
  obtain ⟨b1, b2, b3⟩ := a
  refine ⟨_, _, svN s, len, r, ?_, Or.inl ⟨?_, b3⟩⟩
  · unfold w_X4_pass
    rw [if_neg c1, if_pos c2', nI_clamp (by omega)]
    exact wr_le b1 (by omega)
  · unfold o_X4_pass
    rw [if_neg c1, if_pos c2', nI_clamp (by omega), b2]
    rfl
theorem face_cool (H : WR M m s len K) (a1 : Int32) : ∃ b m2 s2 l2, Rn MX5_cool [vR 7 0 0, vI a1] m (some (vI b)) m2 ∧ WR (w_X4_cool M a1) m2 s2 l2 (K + 20) ∧ AG (e3 1 0 2) (o_X4_cool M a1) (m2.1 7 0 0 5) b := by
  have d1 : ¬ (1 : Int32) = 0 := by decide
  have n1 : ¬ ¬ (0 : Int32) = 0 := fun q => q rfl
  rcases row_or M m a1 with ⟨q1, q2⟩ | ⟨r, hr, rfl, q1, q2⟩
  · refine ⟨_, _, s, len, off_cool m a1 q2, ?_, Or.inr ⟨40, ?_, w_at _ _ _ _ _ _, Or.inl rfl⟩⟩
    · unfold w_X4_cool; rw [q1, if_neg n1]; exact wr_le (wr_5 H _) (by omega)
    · unfold o_X4_cool; rw [q1, if_neg n1]
  have eh := holders_R (st_val H) hr
  by_cases z : v_X5_holders m r = 0
  · have z' : ¬ ¬ v_X5_holders m r = 0 := fun q => q z
    have hc : cd_cool m r = 0 := by unfold cd_cool; rw [q2, if_pos d1, if_neg z']
    have k := go_cool m r s hr H.2.1 H.2.2.1 hc
    obtain ⟨W, t0⟩ := sv_W H
    have e4 : v_X1_at (w_X0_save M 0) 4 0 (nI r) = zz m (101 + r) := by
      have k1 := at_S (w_X0_save M 0) 0 4 r (clT (w_X0_save M 0) 0) (by omega) (show r < 12 from hr)
      rw [setS_id] at k1
      rw [k1, W.1.1.2.2.1.1 4 r (by omega) (by omega) (show r < 12 from hr), zz_svM]
      rfl
    have eP : w_X1_put (w_X0_save M 0) 4 0 (nI r) 0 = setS (w_X0_save M 0) 0 (up2 (clT (w_X0_save M 0) 0) 4 r 0) := by
      have k1 := put_S (w_X0_save M 0) 0 4 r (clT (w_X0_save M 0) 0) 0 (by omega) (show r < 12 from hr)
      rw [setS_id] at k1
      exact k1
    refine ⟨_, _, svN s, len, k, ?_, Or.inl ⟨?_, ?_⟩⟩
    · unfold w_X4_cool
      rw [q1, if_pos d1, eh, if_pos z, eP]
      refine wr_oz W ⟨?_, ?_, ?_⟩ (show K ≤ K + 20 by omega) (oz_wI (svM m s) (101 + r) 0)
      · rw [zz_wI]
        exact sa_raise W.1.1 (k := 4) (i := r) (by omega) (by omega) (by omega) (show r < 12 from hr) 0
      · obtain ⟨x1, x2, x3, x4⟩ := W.1.2.1
        refine ⟨?_, ?_, ?_, fun r2 hr2 => ?_⟩
        · rw [up2_o _ _ _ _ (by decide)]; exact x1
        · rw [up2_o _ _ _ _ (by decide)]; exact x2
        · rw [up2_o _ _ _ _ (by decide)]; exact x3
        · unfold up2
          by_cases q : r2 = r
          · rw [if_pos ⟨rfl, q⟩]; exact ⟨0, by omega, rfl⟩
          · rw [if_neg (fun u => q u.2)]; exact x4 r2 hr2
      · exact cn_le (ec_cn (c := clT (w_X0_save M 0) 0) ⟨up2_o _ _ _ _ (by decide), up2_o _ _ _ _ (by decide), up2_o _ _ _ _ (by decide)⟩ W.1.2.2) (by omega)
    · unfold o_X4_cool
      rw [q1, if_pos d1, eh, if_pos z, e4]
    · rw [(oz_wI (svM m s) (101 + r) 0).1 7 0 0 5 (by omega)]; exact t0
  · have hc : cd_cool m r = 2 := by unfold cd_cool; rw [q2, if_pos d1, if_pos z]
    have k := no_cool m r hr (by rw [hc]; decide)
    refine ⟨_, _, s, len, k, ?_, Or.inr ⟨58, ?_, by rw [w_at, hc]; rfl, Or.inr (Or.inr rfl)⟩⟩
    · unfold w_X4_cool; rw [q1, if_pos d1, eh, if_neg z]; exact wr_le (wr_5 H _) (by omega)
    · unfold o_X4_cool; rw [q1, if_pos d1, eh, if_neg z]
/-- a value of a setting -/
theorem val_or (M m : PM) {i : Nat} (hi : i < 3) (x : Int32) : ((x < v_X4_leastValue M (nI i) ∨ (¬ x < v_X4_leastValue M (nI i) ∧ ¬ x ≤ v_X4_greatestValue M (nI i))) ∧ v_X5_isValue m (nI i) x = 0) ∨ (¬ x < v_X4_leastValue M (nI i) ∧ x ≤ v_X4_greatestValue M (nI i) ∧ v_X5_isValue m (nI i) x = 1 ∧ ∃ n, x = nI n ∧ (i = 0 → n ≤ 900) ∧ (i = 1 → n ≤ 20) ∧ (i = 2 → n ≤ 50)) := by
  have gen : ∀ (lo hi : Nat), lo < 2 ^ 31 → hi < 2 ^ 31 → ((x < nI lo ∨ (¬ x < nI lo ∧ ¬ x ≤ nI hi)) ∧ v_X5_within m x (nI lo) (nI hi) = 0) ∨ (¬ x < nI lo ∧ x ≤ nI hi ∧ v_X5_within m x (nI lo) (nI hi) = 1 ∧ ∃ n, x = nI n ∧ n ≤ hi) := by
    intro lo hi h1 h2
    unfold v_X5_within
    by_cases c1 : x < nI lo
    · rw [if_pos c1]; exact Or.inl ⟨Or.inl c1, rfl⟩
    · rw [if_neg c1]
      by_cases c2 : nI hi < x
      · rw [if_pos c2]; exact Or.inl ⟨Or.inr ⟨c1, Int32.not_le.mpr c2⟩, rfl⟩
      · rw [if_neg c2]
        obtain ⟨n, _, k2, k3⟩ := nI_le2 h1 h2 c1 c2
        exact Or.inr ⟨c1, Int32.not_lt.mp c2, rfl, n, k3, k2⟩
  rcases (show i = 0 ∨ i = 1 ∨ i = 2 by omega) with rfl | rfl | rfl
  · rcases gen 10 900 (by omega) (by omega) with ⟨a, b⟩ | ⟨a, b, c, n, d, e⟩
    · exact Or.inl ⟨a, b⟩
    · exact Or.inr ⟨a, b, c, n, d, fun _ => e, fun q => absurd q (by decide), fun q => absurd q (by decide)⟩
  · rcases gen 0 20 (by omega) (by omega) with ⟨a, b⟩ | ⟨a, b, c, n, d, e⟩
    · exact Or.inl ⟨a, b⟩
    · exact Or.inr ⟨a, b, c, n, d, fun q => absurd q (by decide), fun _ => e, fun q => absurd q (by decide)⟩
  · rcases gen 0 50 (by omega) (by omega) with ⟨a, b⟩ | ⟨a, b, c, n, d, e⟩
    · exact Or.inl ⟨a, b⟩
    · exact Or.inr ⟨a, b, c, n, d, fun q => absurd q (by decide), fun q => absurd q (by decide), fun _ => e⟩
theorem face_set (H : WR M m s len K) (a1 a2 : Int32) : ∃ b m2 s2 l2, Rn MX5_set [vR 7 0 0, vI a1, vI a2] m (some (vI b)) m2 ∧ WR (w_X4_set M a1 a2) m2 s2 l2 (K + 20) ∧ AG (e3 1 2 0) (o_X4_set M a1 a2) (m2.1 7 0 0 5) b := by
  have d1 : ¬ (1 : Int32) = 0 := by decide
  have n1 : ¬ ¬ (0 : Int32) = 0 := fun q => q rfl
  have no : ∀ x : Nat, (x = 40 ∨ x = 50) → o_X4_set M a1 a2 = .inr x → w_X4_set M a1 a2 = M → cd_set m a1 a2 = e3 1 2 0 x → ∃ b m2 s2 l2, Rn MX5_set [vR 7 0 0, vI a1, vI a2] m (some (vI b)) m2 ∧ WR (w_X4_set M a1 a2) m2 s2 l2 (K + 20) ∧ AG (e3 1 2 0) (o_X4_set M a1 a2) (m2.1 7 0 0 5) b := by
    intro x hx ho hw hc
    have k := no_set m a1 a2 (by rw [hc]; rcases hx with rfl | rfl <;> decide)
    refine ⟨_, _, s, len, k, by rw [hw]; exact wr_le (wr_5 H _) (by omega), Or.inr ⟨x, ho, by rw [w_at]; exact hc, by omega⟩⟩
  rcases set_or M m a1 with ⟨p1, p2⟩ | ⟨i, hi, rfl, p1, p2⟩
  · exact no 40 (Or.inl rfl) (by unfold o_X4_set; rw [p1, if_neg n1]) (by unfold w_X4_set; rw [p1, if_neg n1]) (by unfold cd_set; rw [p2, if_neg n1]; rfl)
  rcases val_or M m hi a2 with ⟨c | ⟨c, c3⟩, q⟩ | ⟨c, c3, q, n, en, b0, b1, b2⟩
  · exact no 50 (Or.inr rfl) (by unfold o_X4_set; rw [p1, if_pos d1, if_pos c]) (by unfold w_X4_set; rw [p1, if_pos d1, if_pos c]) (by unfold cd_set; rw [p2, if_pos d1, if_pos q]; rfl)
  · exact no 50 (Or.inr rfl) (by unfold o_X4_set; rw [p1, if_pos d1, if_neg c, if_neg c3]) (by unfold w_X4_set; rw [p1, if_pos d1, if_neg c, if_neg c3]) (by unfold cd_set; rw [p2, if_pos d1, if_pos q]; rfl)
  · have hc : cd_set m (nI i) a2 = 0 := by unfold cd_set; rw [p2, if_pos d1, q, if_neg d1]
    have k := go_set m i s a2 hi H.2.1 H.2.2.1 hc
    obtain ⟨W, t0⟩ := sv_W H
    have e4 : v_X1_at (w_X0_save M 0) 10 0 (nI i) = zz m (0 + i) := by rw [setting_R W hi, zz_svM]
    have eP : w_X1_put (w_X0_save M 0) 10 0 (nI i) a2 = setS (w_X0_save M 0) 0 (up2 (clT (w_X0_save M 0) 0) 10 i a2) := by
      have k1 := put_S (w_X0_save M 0) 0 10 i (clT (w_X0_save M 0) 0) a2 (by omega) (show i < 3 from hi)
      rw [setS_id] at k1
      exact k1
    refine ⟨_, _, svN s, len, k, ?_, Or.inl ⟨?_, ?_⟩⟩
    · unfold w_X4_set
      rw [p1, if_pos d1, if_neg c, if_pos c3, eP]
      refine wr_oz W ⟨?_, ?_, ?_⟩ (show K ≤ K + 20 by omega) (oz_wI (svM m s) (0 + i) a2)
      · rw [zz_wI]
        exact sa_raise W.1.1 (k := 10) (i := i) (by omega) (by omega) (by omega) (show i < 3 from hi) a2
      · obtain ⟨x1, x2, x3, x4⟩ := W.1.2.1
        have ev : ∀ j, up2 (clT (w_X0_save M 0) 0) 10 i a2 10 j = if j = i then a2 else clT (w_X0_save M 0) 0 10 j := fun j => by
          unfold up2
          by_cases u : j = i
          · rw [if_pos ⟨rfl, u⟩, if_pos u]
          · rw [if_neg (fun v => u v.2), if_neg u]
        refine ⟨?_, ?_, ?_, fun r2 hr2 => ?_⟩
        · rw [ev]
          by_cases u : 0 = i
          · rw [if_pos u]; exact ⟨n, b0 u.symm, en⟩
          · rw [if_neg u]; exact x1
        · rw [ev]
          by_cases u : 1 = i
          · rw [if_pos u]; exact ⟨n, b1 u.symm, en⟩
          · rw [if_neg u]; exact x2
        · rw [ev]
          by_cases u : 2 = i
          · rw [if_pos u]; exact ⟨n, b2 u.symm, en⟩
          · rw [if_neg u]; exact x3
        · rw [up2_o _ _ _ _ (by decide)]; exact x4 r2 hr2
      · exact cn_le (ec_cn (c := clT (w_X0_save M 0) 0) ⟨up2_o _ _ _ _ (by decide), up2_o _ _ _ _ (by decide), up2_o _ _ _ _ (by decide)⟩ W.1.2.2) (by omega)
    · unfold o_X4_set
      rw [p1, if_pos d1, if_neg c, if_pos c3, e4]
    · rw [(oz_wI (svM m s) (0 + i) a2).1 7 0 0 5 (by omega)]; exact t0
theorem face_append (H : WR M m s len K) (a1 : Int32) : ∃ b m2 s2 l2, Rn MX5_append [vR 7 0 0, vI a1] m (some (vI b)) m2 ∧ WR (w_X4_append M a1) m2 s2 l2 (K + 20) ∧ AG (e3 0 1 2) (o_X4_append M a1) (m2.1 7 0 0 5) b := by
  have d1 : ¬ (1 : Int32) = 0 := by decide
  have n1 : ¬ ¬ (0 : Int32) = 0 := fun q => q rfl
  have no : ∀ x : Nat, (x = 50 ∨ x = 58) → o_X4_append M a1 = .inr x → w_X4_append M a1 = M → cd_append m a1 = e3 0 1 2 x → ∃ b m2 s2 l2, Rn MX5_append [vR 7 0 0, vI a1] m (some (vI b)) m2 ∧ WR (w_X4_append M a1) m2 s2 l2 (K + 20) ∧ AG (e3 0 1 2) (o_X4_append M a1) (m2.1 7 0 0 5) b := by
    intro x hx ho hw hc
    have k := no_append m a1 (by rw [hc]; rcases hx with rfl | rfl <;> decide)
    refine ⟨_, _, s, len, k, by rw [hw]; exact wr_le (wr_5 H _) (by omega), Or.inr ⟨x, ho, by rw [w_at]; exact hc, by omega⟩⟩
  by_cases c1 : a1 < 33
  · exact no 50 (Or.inl rfl) (by unfold o_X4_append; rw [if_pos c1]) (by unfold w_X4_append; rw [if_pos c1]) (by unfold cd_append v_X5_within; rw [if_pos c1, if_neg n1]; rfl)
  by_cases c2 : (126 : Int32) < a1
  · have c2' : ¬ a1 ≤ 126 := Int32.not_le.mpr c2
    exact no 50 (Or.inl rfl) (by unfold o_X4_append; rw [if_neg c1, if_neg c2']) (by unfold w_X4_append; rw [if_neg c1, if_neg c2']) (by unfold cd_append v_X5_within; rw [if_neg c1, if_pos c2, if_neg n1]; rfl)
  have c2' : a1 ≤ 126 := Int32.not_lt.mp c2
  have hlen := wr_len H
  have h60 := (wr_txt H).1
  have hl : m.1 7 0 0 3 = nI len := H.2.2.2.2.2.2.2.1
  by_cases c6 : len = 60
  · have c7 : ¬ M.1 6 0 0 1 < 60 := by rw [hlen, c6]; decide
    have c8 : ¬ ¬ m.1 7 0 0 3 = (60 : Int32) := fun q => q (by rw [hl, c6]; rfl)
    exact no 58 (Or.inr rfl) (by unfold o_X4_append; rw [if_neg c1, if_pos c2', if_neg c7]) (by unfold w_X4_append; rw [if_neg c1, if_pos c2', if_neg c7]) (by unfold cd_append v_X5_within; rw [if_neg c1, if_neg c2, if_pos d1, if_neg c8]; rfl)
  · have c7 : M.1 6 0 0 1 < 60 := by rw [hlen]; exact R_lt 60 (n := 60) rfl (by omega) (by omega)
    have c8 : ¬ m.1 7 0 0 3 = (60 : Int32) := fun q => c6 (by rw [hl] at q; exact (nI_eq (by omega) (by omega)).mp (show nI len = nI 60 from q))
    have hc : cd_append m a1 = 0 := by unfold cd_append v_X5_within; rw [if_neg c1, if_neg c2, if_pos d1, if_pos c8]
    obtain ⟨k, k1, k2, rfl⟩ := nI_le2 (a := 33) (b := 126) (by omega) (by omega) c1 c2
    have r := go_append m (nI k) len hl (by omega) hc
    obtain ⟨v, w⟩ := append_R H (by omega) k1 k2
    refine ⟨_, _, s, len + 1, r, ?_, Or.inl ⟨?_, ?_⟩⟩
    · unfold w_X4_append; rw [if_neg c1, if_pos c2', if_pos c7]; exact wr_le w (by omega)
    · unfold o_X4_append; rw [if_neg c1, if_pos c2', if_pos c7, v]
    · unfold appW wI
      dsimp only
      rw [if_neg (by omega), if_neg (by omega), if_pos ⟨rfl, rfl, rfl, rfl⟩]
theorem face_run (H : WR M m s len K) : ∃ b m2 s2 l2, Rn MX5_run [vR 7 0 0] m (some (vI b)) m2 ∧ WR (w_X4_run M) m2 s2 l2 (K + 20) ∧ AG (e3 0 1 0) (o_X4_run M) (m2.1 7 0 0 5) b := by
  have r := r_X5_run jj_JZ m len s (wr_J H) H.2.2.2.2.2.2.2.1 (wr_txt H).1 H.2.1 H.2.2.1
  rcases run_R H with ⟨a, b, c, d⟩ | ⟨a, b, c⟩
  · exact ⟨_, _, s, len, r, by rw [b]; exact wr_le d (by omega), Or.inr ⟨50, a, by rw [c]; rfl, Or.inr (Or.inl rfl)⟩⟩
  · exact ⟨_, _, svN s, 0, r, c, Or.inl ⟨a, b⟩⟩
theorem face_undo (H : WR M m s len K) : ∃ b m2 s2 l2, Rn MX5_undo [vR 7 0 0] m (some (vI b)) m2 ∧ WR (w_X4_undo M) m2 s2 l2 (K + 20) ∧ AG (e3 0 0 1) (o_X4_undo M) (m2.1 7 0 0 5) b := by
  have r := r_X5_undo m s H.2.1 H.2.2.1
  have n1 : ¬ ¬ (0 : Int32) = 0 := fun q => q rfl
  cases s with
  | zero =>
    have e : M.1 4 0 0 2 = 0 := H.2.2.2.1
    refine ⟨_, _, 0, len, r, ?_, Or.inr ⟨58, ?_, w_at _ _ _ _ _ _, Or.inr (Or.inr rfl)⟩⟩
    · unfold w_X4_undo; rw [e, if_neg n1]; exact wr_le (wr_5 H 1) (by omega)
    · unfold o_X4_undo; rw [e, if_neg n1]
  | succ s =>
    have h6 := H.2.1
    have e : ¬ M.1 4 0 0 2 = 0 := by rw [H.2.2.2.1]; exact nI_ne0 (by omega) (by omega)
    obtain ⟨v, w⟩ := undo_R H
    refine ⟨_, _, s, len, r, ?_, Or.inl ⟨?_, ?_⟩⟩
    · unfold w_X4_undo; rw [if_pos e]; exact wr_le w (by omega)
    · unfold o_X4_undo; rw [if_pos e, v]; rfl
    · show (setz (undoM m s) _).1 7 0 0 5 = 0
      unfold setz undoM wI
      dsimp only
      rw [if_neg (by omega), if_neg (by omega), if_pos ⟨rfl, rfl, rfl, rfl⟩]
end
