/-! the face: what there is, what would be -/
section
variable {M m : PM} {s len K : Nat}
theorem face_lock (H : WR M m s len K) (a1 a2 : Int32) : ∃ b m2 s2 l2, Rn MX5_lock [vR 7 0 0, vI a1, vI a2] m (some (vI b)) m2 ∧ WR M m2 s2 l2 (K + 20) ∧ AG (e3 1 0 0) (o_X4_lock M a1 a2) (m2.1 7 0 0 5) b := by
  have d1 : ¬ (1 : Int32) = 0 := by decide
  have n1 : ¬ ¬ (0 : Int32) = 0 := fun q => q rfl
  have no : o_X4_lock M a1 a2 = .inr 40 → cd_lock m a1 a2 = 1 → ∃ b m2 s2 l2, Rn MX5_lock [vR 7 0 0, vI a1, vI a2] m (some (vI b)) m2 ∧ WR M m2 s2 l2 (K + 20) ∧ AG (e3 1 0 0) (o_X4_lock M a1 a2) (m2.1 7 0 0 5) b := fun ho hc => ⟨_, _, s, len, no_lock m a1 a2 (by rw [hc]; decide), wr_le (wr_5 H _) (by omega), Or.inr ⟨40, ho, by rw [w_at, hc]; rfl, Or.inl rfl⟩⟩
  rcases hand_or M m a1 with ⟨p1, p2⟩ | ⟨h, hh, rfl, p1, p2⟩
  · exact no (by unfold o_X4_lock; rw [if_pos p1]) (by unfold cd_lock; rw [there_h p2, if_pos rfl])
  rcases row_or M m a2 with ⟨q1, q2⟩ | ⟨r, hr, rfl, q1, q2⟩
  · exact no (by unfold o_X4_lock; rw [p1, if_neg d1, q1, if_neg n1]) (by unfold cd_lock; rw [there_r q2, if_pos rfl])
  have k := r_X5_lock m h r hh hr
  have t := there_1 (m := m) p2 q2
  have W := wr_5 H 0
  refine ⟨_, _, s, len, k, ?_, Or.inl ⟨?_, ?_⟩⟩
  · unfold w_X5_lock; rw [t, if_neg d1]; exact wr_le W (by omega)
  · unfold o_X4_lock v_X5_lock
    rw [p1, if_neg d1, q1, if_pos d1, t, if_neg d1, w_at, if_pos (by decide), lock_R (st_val W) hh hr]
  · unfold w_X5_lock; rw [t, if_neg d1]; exact w_at _ _ _ _ _ _
theorem face_takers (H : WR M m s len K) (a1 a2 : Int32) : ∃ b m2 s2 l2, Rn MX5_takers [vR 7 0 0, vI a1, vI a2] m (some (vI b)) m2 ∧ WR M m2 s2 l2 (K + 20) ∧ AG (e3 1 0 0) (o_X4_takers M a1 a2) (m2.1 7 0 0 5) b := by
  have d1 : ¬ (1 : Int32) = 0 := by decide
  have n1 : ¬ ¬ (0 : Int32) = 0 := fun q => q rfl
  have no : o_X4_takers M a1 a2 = .inr 40 → cd_takers m a1 a2 = 1 → ∃ b m2 s2 l2, Rn MX5_takers [vR 7 0 0, vI a1, vI a2] m (some (vI b)) m2 ∧ WR M m2 s2 l2 (K + 20) ∧ AG (e3 1 0 0) (o_X4_takers M a1 a2) (m2.1 7 0 0 5) b := fun ho hc => ⟨_, _, s, len, no_takers m a1 a2 (by rw [hc]; decide), wr_le (wr_5 H _) (by omega), Or.inr ⟨40, ho, by rw [w_at, hc]; rfl, Or.inl rfl⟩⟩
  rcases hand_or M m a1 with ⟨p1, p2⟩ | ⟨h, hh, rfl, p1, p2⟩
  · exact no (by unfold o_X4_takers; rw [if_pos p1]) (by unfold cd_takers; rw [there_h p2, if_pos rfl])
  rcases row_or M m a2 with ⟨q1, q2⟩ | ⟨r, hr, rfl, q1, q2⟩
  · exact no (by unfold o_X4_takers; rw [p1, if_neg d1, q1, if_neg n1]) (by unfold cd_takers; rw [there_r q2, if_pos rfl])
  have k := r_X5_takers m h r hh hr (wr_ql H)
  have t := there_1 (m := m) p2 q2
  have W := wr_5 H 0
  refine ⟨_, _, s, len, k, ?_, Or.inl ⟨?_, ?_⟩⟩
  · unfold w_X5_takers; rw [t, if_neg d1]; exact wr_le W (by omega)
  · unfold o_X4_takers v_X5_takers
    rw [p1, if_neg d1, q1, if_pos d1, t, if_neg d1, w_at, if_pos (by decide), takers_R (st_val W) hh hr]
  · unfold w_X5_takers; rw [t, if_neg d1]; exact w_at _ _ _ _ _ _
theorem face_hand (H : WR M m s len K) (a1 a2 : Int32) : ∃ b m2 s2 l2, Rn MX5_hand [vR 7 0 0, vI a1, vI a2] m (some (vI b)) m2 ∧ WR M m2 s2 l2 (K + 20) ∧ AG (e3 1 2 0) (o_X4_hand M a1 a2) (m2.1 7 0 0 5) b := by
  have d1 : ¬ (1 : Int32) = 0 := by decide
  have n1 : ¬ ¬ (0 : Int32) = 0 := fun q => q rfl
  have no : ∀ x : Nat, (x = 40 ∨ x = 50) → o_X4_hand M a1 a2 = .inr x → cd_hand m a1 a2 = e3 1 2 0 x → ∃ b m2 s2 l2, Rn MX5_hand [vR 7 0 0, vI a1, vI a2] m (some (vI b)) m2 ∧ WR M m2 s2 l2 (K + 20) ∧ AG (e3 1 2 0) (o_X4_hand M a1 a2) (m2.1 7 0 0 5) b := fun x hx ho hc => ⟨_, _, s, len, no_hand m a1 a2 (by rw [hc]; rcases hx with rfl | rfl <;> decide), wr_le (wr_5 H _) (by omega), Or.inr ⟨x, ho, by rw [w_at, hc], by omega⟩⟩
  rcases hand_or M m a1 with ⟨p1, p2⟩ | ⟨h, hh, rfl, p1, p2⟩
  · exact no 40 (Or.inl rfl) (by unfold o_X4_hand; rw [p1, if_neg n1]) (by unfold cd_hand; rw [p2, if_neg n1]; rfl)
  rcases wh_or m a2 8 (by omega) with ⟨c | ⟨c, c3⟩, q⟩ | ⟨w, hw, rfl, c, c3, q⟩
  · exact no 50 (Or.inr rfl) (by unfold o_X4_hand; rw [p1, if_pos d1, if_pos c]) (by unfold cd_hand; rw [p2, if_pos d1, if_pos (show v_X5_within m a2 0 8 = 0 from q)]; rfl)
  · exact no 50 (Or.inr rfl) (by unfold o_X4_hand; rw [p1, if_pos d1, if_neg c, if_neg (show ¬ a2 < (9 : Int32) from c3)]) (by unfold cd_hand; rw [p2, if_pos d1, if_pos (show v_X5_within m a2 0 8 = 0 from q)]; rfl)
  have k := r_X5_hand m h w hh hw (wr_ql H)
  have W := wr_5 H 0
  have q : v_X5_within m (nI w) 0 8 = 1 := q
  refine ⟨_, _, s, len, k, ?_, Or.inl ⟨?_, ?_⟩⟩
  · unfold w_X5_hand; rw [p2, if_pos d1, q, if_neg d1]; exact wr_le W (by omega)
  · unfold o_X4_hand v_X5_hand
    have kk := handPart_R M (wI m 7 0 0 5 0) 0 W.1.1 hh hw
    rw [setS_id] at kk
    rw [p1, if_pos d1, if_neg c, if_pos (show nI w < (9 : Int32) from c3), p2, if_pos d1, q, if_neg d1, w_at, if_pos (by decide), kk]
  · unfold w_X5_hand; rw [p2, if_pos d1, q, if_neg d1]; exact w_at _ _ _ _ _ _
theorem face_row (H : WR M m s len K) (a1 a2 : Int32) : ∃ b m2 s2 l2, Rn MX5_row [vR 7 0 0, vI a1, vI a2] m (some (vI b)) m2 ∧ WR M m2 s2 l2 (K + 20) ∧ AG (e3 1 2 0) (o_X4_row M a1 a2) (m2.1 7 0 0 5) b := by
  have d1 : ¬ (1 : Int32) = 0 := by decide
  have n1 : ¬ ¬ (0 : Int32) = 0 := fun q => q rfl
  have no : ∀ x : Nat, (x = 40 ∨ x = 50) → o_X4_row M a1 a2 = .inr x → cd_row m a1 a2 = e3 1 2 0 x → ∃ b m2 s2 l2, Rn MX5_row [vR 7 0 0, vI a1, vI a2] m (some (vI b)) m2 ∧ WR M m2 s2 l2 (K + 20) ∧ AG (e3 1 2 0) (o_X4_row M a1 a2) (m2.1 7 0 0 5) b := fun x hx ho hc => ⟨_, _, s, len, no_row m a1 a2 (by rw [hc]; rcases hx with rfl | rfl <;> decide), wr_le (wr_5 H _) (by omega), Or.inr ⟨x, ho, by rw [w_at, hc], by omega⟩⟩
  rcases row_or M m a1 with ⟨p1, p2⟩ | ⟨h, hh, rfl, p1, p2⟩
  · exact no 40 (Or.inl rfl) (by unfold o_X4_row; rw [p1, if_neg n1]) (by unfold cd_row; rw [p2, if_neg n1]; rfl)
  rcases wh_or m a2 5 (by omega) with ⟨c | ⟨c, c3⟩, q⟩ | ⟨w, hw, rfl, c, c3, q⟩
  · exact no 50 (Or.inr rfl) (by unfold o_X4_row; rw [p1, if_pos d1, if_pos c]) (by unfold cd_row; rw [p2, if_pos d1, if_pos (show v_X5_within m a2 0 5 = 0 from q)]; rfl)
  · exact no 50 (Or.inr rfl) (by unfold o_X4_row; rw [p1, if_pos d1, if_neg c, if_neg (show ¬ a2 < (6 : Int32) from c3)]) (by unfold cd_row; rw [p2, if_pos d1, if_pos (show v_X5_within m a2 0 5 = 0 from q)]; rfl)
  have k := r_X5_row m h (nI w) hh
  have W := wr_5 H 0
  have q : v_X5_within m (nI w) 0 5 = 1 := q
  refine ⟨_, _, s, len, k, ?_, Or.inl ⟨?_, ?_⟩⟩
  · unfold w_X5_row; rw [p2, if_pos d1, q, if_neg d1]; exact wr_le W (by omega)
  · unfold o_X4_row v_X5_row
    have kk := rowPart_R M (wI m 7 0 0 5 0) 0 W.1.1 hh (nI w)
    rw [setS_id] at kk
    rw [p1, if_pos d1, if_neg c, if_pos (show nI w < (6 : Int32) from c3), p2, if_pos d1, q, if_neg d1, w_at, if_pos (by decide), kk]
  · unfold w_X5_row; rw [p2, if_pos d1, q, if_neg d1]; exact w_at _ _ _ _ _ _
theorem face_request (H : WR M m s len K) (a1 a2 a3 : Int32) : ∃ b m2 s2 l2, Rn MX5_request [vR 7 0 0, vI a1, vI a2, vI a3] m (some (vI b)) m2 ∧ WR M m2 s2 l2 (K + 20) ∧ AG (e3 1 2 0) (o_X4_request M a1 a2 a3) (m2.1 7 0 0 5) b := by
  have d1 : ¬ (1 : Int32) = 0 := by decide
  have n1 : ¬ ¬ (0 : Int32) = 0 := fun q => q rfl
  have no : ∀ x : Nat, (x = 40 ∨ x = 50) → o_X4_request M a1 a2 a3 = .inr x → cd_request m a1 a2 a3 = e3 1 2 0 x → ∃ b m2 s2 l2, Rn MX5_request [vR 7 0 0, vI a1, vI a2, vI a3] m (some (vI b)) m2 ∧ WR M m2 s2 l2 (K + 20) ∧ AG (e3 1 2 0) (o_X4_request M a1 a2 a3) (m2.1 7 0 0 5) b := fun x hx ho hc => ⟨_, _, s, len, no_request m a1 a2 a3 (by rw [hc]; rcases hx with rfl | rfl <;> decide), wr_le (wr_5 H _) (by omega), Or.inr ⟨x, ho, by rw [w_at, hc], by omega⟩⟩
  rcases row_or M m a1 with ⟨p1, p2⟩ | ⟨h, hh, rfl, p1, p2⟩
  · exact no 40 (Or.inl rfl) (by unfold o_X4_request; rw [p1, if_neg n1]) (by unfold cd_request; rw [p2, if_neg n1]; rfl)
  rcases wh_or m a2 7 (by omega) with ⟨c | ⟨c, c3⟩, q⟩ | ⟨w, hw, rfl, c, c3, q⟩
  · exact no 50 (Or.inr rfl) (by unfold o_X4_request; rw [p1, if_pos d1, if_pos c]) (by unfold cd_request; rw [p2, if_pos d1, if_pos (show v_X5_within m a2 0 7 = 0 from q)]; rfl)
  · exact no 50 (Or.inr rfl) (by unfold o_X4_request; rw [p1, if_pos d1, if_neg c, if_pos (show (8 : Int32) ≤ a2 from Int32.not_lt.mp c3)]) (by unfold cd_request; rw [p2, if_pos d1, if_pos (show v_X5_within m a2 0 7 = 0 from q)]; rfl)
  have q : v_X5_within m (nI w) 0 7 = 1 := q
  have c3' : ¬ (8 : Int32) ≤ nI w := Int32.not_le.mpr c3
  rcases wh_or m a3 1 (by omega) with ⟨b | ⟨b, b3⟩, u⟩ | ⟨x, hx, rfl, b, b3, u⟩
  · exact no 50 (Or.inr rfl) (by unfold o_X4_request; rw [p1, if_pos d1, if_neg c, if_neg c3', if_pos b]) (by unfold cd_request; rw [p2, if_pos d1, q, if_neg d1, if_pos (show v_X5_within m a3 0 1 = 0 from u)]; rfl)
  · exact no 50 (Or.inr rfl) (by unfold o_X4_request; rw [p1, if_pos d1, if_neg c, if_neg c3', if_neg b, if_neg (show ¬ a3 < (2 : Int32) from b3)]) (by unfold cd_request; rw [p2, if_pos d1, q, if_neg d1, if_pos (show v_X5_within m a3 0 1 = 0 from u)]; rfl)
  have k := r_X5_request m h w (nI x) hh hw
  have W := wr_5 H 0
  have u : v_X5_within m (nI x) 0 1 = 1 := u
  refine ⟨_, _, s, len, k, ?_, Or.inl ⟨?_, ?_⟩⟩
  · unfold w_X5_request; rw [p2, if_pos d1, q, if_neg d1, u, if_neg d1]; exact wr_le W (by omega)
  · unfold o_X4_request v_X5_request
    rw [p1, if_pos d1, if_neg c, if_neg c3', if_neg b, if_pos (show nI x < (2 : Int32) from b3), p2, if_pos d1, q, if_neg d1, u, if_neg d1, w_at, if_pos (by decide), request_R (st_val W) hh hw]
  · unfold w_X5_request; rw [p2, if_pos d1, q, if_neg d1, u, if_neg d1]; exact w_at _ _ _ _ _ _
theorem face_count (H : WR M m s len K) (a1 : Int32) : ∃ b m2 s2 l2, Rn MX5_count [vR 7 0 0, vI a1] m (some (vI b)) m2 ∧ WR M m2 s2 l2 (K + 20) ∧ AG (e3 0 1 0) (o_X4_count M a1) (m2.1 7 0 0 5) b := by
  have d1 : ¬ (1 : Int32) = 0 := by decide
  have no : o_X4_count M a1 = .inr 50 → cd_count m a1 = 1 → ∃ b m2 s2 l2, Rn MX5_count [vR 7 0 0, vI a1] m (some (vI b)) m2 ∧ WR M m2 s2 l2 (K + 20) ∧ AG (e3 0 1 0) (o_X4_count M a1) (m2.1 7 0 0 5) b := fun ho hc => ⟨_, _, s, len, no_count m a1 (by rw [hc]; decide), wr_le (wr_5 H _) (by omega), Or.inr ⟨50, ho, by rw [w_at, hc]; rfl, Or.inr (Or.inl rfl)⟩⟩
  rcases wh_or m a1 9 (by omega) with ⟨c | ⟨c, c3⟩, q⟩ | ⟨w, hw, rfl, c, c3, q⟩
  · exact no (by unfold o_X4_count; rw [if_pos c]) (by unfold cd_count; rw [if_pos (show v_X5_within m a1 0 9 = 0 from q)])
  · exact no (by unfold o_X4_count; rw [if_neg c, if_neg (show ¬ a1 < (10 : Int32) from c3)]) (by unfold cd_count; rw [if_pos (show v_X5_within m a1 0 9 = 0 from q)])
  have k := r_X5_count m w hw
  have W := wr_5 H 0
  have q : v_X5_within m (nI w) 0 9 = 1 := q
  refine ⟨_, _, s, len, k, ?_, Or.inl ⟨?_, ?_⟩⟩
  · unfold w_X5_count; rw [q, if_neg d1]; exact wr_le W (by omega)
  · unfold o_X4_count v_X5_count
    rw [if_neg c, if_pos (show nI w < (10 : Int32) from c3), q, if_neg d1, w_at, if_pos (by decide), number_of_R W hw]
  · unfold w_X5_count; rw [q, if_neg d1]; exact w_at _ _ _ _ _ _
theorem face_setting (H : WR M m s len K) (a1 : Int32) : ∃ b m2 s2 l2, Rn MX5_setting [vR 7 0 0, vI a1] m (some (vI b)) m2 ∧ WR M m2 s2 l2 (K + 20) ∧ AG (e3 1 0 0) (o_X4_setting M a1) (m2.1 7 0 0 5) b := by
  have d1 : ¬ (1 : Int32) = 0 := by decide
  have n1 : ¬ ¬ (0 : Int32) = 0 := fun q => q rfl
  rcases set_or M m a1 with ⟨p1, p2⟩ | ⟨i, hi, rfl, p1, p2⟩
  · have hc : cd_setting m a1 = 1 := by unfold cd_setting; rw [if_pos p2]
    refine ⟨_, _, s, len, no_setting m a1 (by rw [hc]; decide), wr_le (wr_5 H _) (by omega), Or.inr ⟨40, ?_, by rw [w_at, hc]; rfl, Or.inl rfl⟩⟩
    unfold o_X4_setting; rw [p1, if_neg n1]
  have k := r_X5_setting m i hi
  have W := wr_5 H 0
  refine ⟨_, _, s, len, k, ?_, Or.inl ⟨?_, ?_⟩⟩
  · unfold w_X5_setting; rw [p2, if_neg d1]; exact wr_le W (by omega)
  · unfold o_X4_setting v_X5_setting
    rw [p1, if_pos d1, p2, if_neg d1, w_at, if_pos (by decide), setting_R W hi]
    rfl
  · unfold w_X5_setting; rw [p2, if_neg d1]; exact w_at _ _ _ _ _ _
theorem face_ifAsked (H : WR M m s len K) (a1 a2 a3 a4 : Int32) : ∃ b m2 s2 l2, Rn MX5_ifAsked [vR 7 0 0, vI a1, vI a2, vI a3, vI a4] m (some (vI b)) m2 ∧ WR (w_X4_ifAsked M a1 a2 a3 a4) m2 s2 l2 (K + 20) ∧ AG (e3 1 2 0) (o_X4_ifAsked M a1 a2 a3 a4) (m2.1 7 0 0 5) b := by
  have d1 : ¬ (1 : Int32) = 0 := by decide
  have n1 : ¬ ¬ (0 : Int32) = 0 := fun q => q rfl
  have no : ∀ x : Nat, (x = 40 ∨ x = 50) → o_X4_ifAsked M a1 a2 a3 a4 = .inr x → w_X4_ifAsked M a1 a2 a3 a4 = M → cd_ifAsked m a1 a2 a3 a4 = e3 1 2 0 x → ∃ b m2 s2 l2, Rn MX5_ifAsked [vR 7 0 0, vI a1, vI a2, vI a3, vI a4] m (some (vI b)) m2 ∧ WR (w_X4_ifAsked M a1 a2 a3 a4) m2 s2 l2 (K + 20) ∧ AG (e3 1 2 0) (o_X4_ifAsked M a1 a2 a3 a4) (m2.1 7 0 0 5) b := fun x hx ho hw hc => ⟨_, _, s, len, no_ifAsked m a1 a2 a3 a4 (by rw [hc]; rcases hx with rfl | rfl <;> decide), by rw [hw]; exact wr_le (wr_5 H _) (by omega), Or.inr ⟨x, ho, by rw [w_at, hc], by omega⟩⟩
  rcases hand_or M m a1 with ⟨p1, p2⟩ | ⟨h, hh, rfl, p1, p2⟩
  · exact no 40 (Or.inl rfl) (by unfold o_X4_ifAsked; rw [if_pos p1]) (by unfold w_X4_ifAsked; rw [if_pos p1]) (by unfold cd_ifAsked; rw [there_h p2, if_neg n1]; rfl)
  rcases row_or M m a2 with ⟨q1, q2⟩ | ⟨r, hr, rfl, q1, q2⟩
  · exact no 40 (Or.inl rfl) (by unfold o_X4_ifAsked; rw [p1, if_neg d1, q1, if_neg n1]) (by unfold w_X4_ifAsked; rw [p1, if_neg d1, q1, if_neg n1]) (by unfold cd_ifAsked; rw [there_r q2, if_neg n1]; rfl)
  have t := there_1 (m := m) p2 q2
  rcases mode_or M m a3 with ⟨r1, r2⟩ | ⟨hm, r1, r2⟩
  · exact no 50 (Or.inr rfl) (by unfold o_X4_ifAsked; rw [p1, if_neg d1, q1, if_pos d1, if_pos r1]) (by unfold w_X4_ifAsked; rw [p1, if_neg d1, q1, if_pos d1, if_pos r1]) (by unfold cd_ifAsked; rw [t, if_pos d1, if_pos r2]; rfl)
  rcases wh_or m a4 2 (by omega) with ⟨c | ⟨c, c3⟩, q⟩ | ⟨w, hw, rfl, c, c3, q⟩
  · exact no 50 (Or.inr rfl) (by unfold o_X4_ifAsked; rw [p1, if_neg d1, q1, if_pos d1, r1, if_neg d1, if_pos c]) (by unfold w_X4_ifAsked; rw [p1, if_neg d1, q1, if_pos d1, r1, if_neg d1, if_pos c]) (by unfold cd_ifAsked; rw [t, if_pos d1, r2, if_neg d1, if_pos (show v_X5_within m a4 0 2 = 0 from q)]; rfl)
  · have c3 : ¬ a4 < (3 : Int32) := c3
    exact no 50 (Or.inr rfl) (by unfold o_X4_ifAsked; rw [p1, if_neg d1, q1, if_pos d1, r1, if_neg d1, if_neg c, if_neg c3]) (by unfold w_X4_ifAsked; rw [p1, if_neg d1, q1, if_pos d1, r1, if_neg d1, if_neg c, if_neg c3]) (by unfold cd_ifAsked; rw [t, if_pos d1, r2, if_neg d1, if_pos (show v_X5_within m a4 0 2 = 0 from q)]; rfl)
  have c3 : nI w < (3 : Int32) := c3
  have q : v_X5_within m (nI w) 0 2 = 1 := q
  have hc : cd_ifAsked m (nI h) (nI r) a3 (nI w) = 0 := by unfold cd_ifAsked; rw [t, if_pos d1, r2, if_neg d1, q, if_neg d1]
  have k := go_ifAsked jj_JZ m h r a3 (nI w) hh hr hm (wr_J H) hc
  have W := wr_5 H 0
  obtain ⟨c2, eW, T⟩ := asked_R W hh hr hm
  have W2 : WR M (w_X5_askedThen (wI m 7 0 0 5 0) h r a3) s len K := wr_oy W (fun i hi => askedThen_z _ h r a3 i hi) (oy_asked _ h r a3)
  refine ⟨_, _, s, len, k, ?_, Or.inl ⟨?_, ?_⟩⟩
  · unfold w_X4_ifAsked
    rw [p1, if_neg d1, q1, if_pos d1, r1, if_neg d1, if_neg c, if_pos c3, eW]
    exact (wr_m1 c2).mpr (wr_le W2 (by omega))
  · unfold o_X4_ifAsked
    rw [p1, if_neg d1, q1, if_pos d1, r1, if_neg d1, if_neg c, if_pos c3, T _ W w hw]
  · rw [oy_asked (wI m 7 0 0 5 0) h r a3 7 0 0 5 (by omega)]; exact w_at _ _ _ _ _ _
theorem face_burnsIn (H : WR M m s len K) (a1 : Int32) : ∃ b m2 s2 l2, Rn MX5_burnsIn [vR 7 0 0, vI a1] m (some (vI b)) m2 ∧ WR M m2 s2 l2 (K + 20) ∧ AG (e3 1 0 0) (o_X4_burnsIn M a1) (m2.1 7 0 0 5) b := by
  have d1 : ¬ (1 : Int32) = 0 := by decide
  have n1 : ¬ ¬ (0 : Int32) = 0 := fun q => q rfl
  rcases row_or M m a1 with ⟨p1, p2⟩ | ⟨r, hr, rfl, p1, p2⟩
  · have hc : cd_burnsIn m a1 = 1 := by unfold cd_burnsIn; rw [if_pos p2]
    refine ⟨_, _, s, len, no_burnsIn m a1 (by rw [hc]; decide), wr_le (wr_5 H _) (by omega), Or.inr ⟨40, ?_, by rw [w_at, hc]; rfl, Or.inl rfl⟩⟩
    unfold o_X4_burnsIn; rw [p1, if_neg n1]
  have hc : cd_burnsIn m (nI r) = 0 := by unfold cd_burnsIn; rw [p2, if_neg d1]
  have k := go_burnsIn m r hr (wr_qa H) hc
  have W := wr_5 H 0
  have kk := burns_R M (wI m 7 0 0 5 0) 0 W.1.1 W.1.2.1 hr
  rw [setS_id] at kk
  refine ⟨_, _, s, len, k, wr_le (wr_oy W (fun i hi => burnsNow_z _ r i hi) (oy_burns _ r)) (by omega), Or.inl ⟨?_, ?_⟩⟩
  · unfold o_X4_burnsIn; rw [p1, if_pos d1, kk]
  · rw [oy_burns (wI m 7 0 0 5 0) r 7 0 0 5 (by omega)]; exact w_at _ _ _ _ _ _
theorem face_waitsFor (H : WR M m s len K) (a1 : Int32) : ∃ b m2 s2 l2, Rn MX5_waitsFor [vR 7 0 0, vI a1] m (some (vI b)) m2 ∧ WR M m2 s2 l2 (K + 20) ∧ AG (e3 1 0 0) (o_X4_waitsFor M a1) (m2.1 7 0 0 5) b := by
  have d1 : ¬ (1 : Int32) = 0 := by decide
  have n1 : ¬ ¬ (0 : Int32) = 0 := fun q => q rfl
  have k := r_X5_waitsFor m a1 (wr_ql H)
  rcases hand_or M m a1 with ⟨p1, p2⟩ | ⟨h, hh, rfl, p1, p2⟩
  · refine ⟨_, _, s, len, k, ?_, Or.inr ⟨40, ?_, ?_, Or.inl rfl⟩⟩
    · unfold w_X5_waitsFor; exact wr_le (wr_5 H _) (by omega)
    · unfold o_X4_waitsFor; rw [p1, if_neg n1]
    · unfold w_X5_waitsFor; rw [w_at, if_pos p2]; rfl
  have W := wr_5 H 0
  refine ⟨_, _, s, len, k, ?_, Or.inl ⟨?_, ?_⟩⟩
  · unfold w_X5_waitsFor; exact wr_le (wr_5 H _) (by omega)
  · unfold o_X4_waitsFor v_X5_waitsFor
    rw [p1, if_pos d1, p2, if_neg d1, w_at, if_pos (by decide), reach_R (st_val W) hh]
  · unfold w_X5_waitsFor; rw [w_at, p2, if_neg d1]
theorem face_clearBuffer (H : WR M m s len K) : v_X4_clearBuffer M = v_X5_clearBuffer m ∧ WR (w_X4_clearBuffer M) (w_X5_clearBuffer m) s 0 (K + 20) := by
  refine ⟨?_, ?_⟩
  · unfold v_X4_clearBuffer v_X3_empty v_X5_clearBuffer
    rw [wr_len H, (wr_5 H 0).2.2.2.2.2.2.2.1]
  · unfold w_X4_clearBuffer w_X5_clearBuffer
    exact wr_le (clear_R (wr_5 H 0)) (by omega)
theorem face_firstError (H : WR M m s len K) : Rn MX5_firstError [vR 7 0 0] m (some (vI (v_X4_firstError M))) (w_X5_rightUpTo (wI m 7 0 0 5 0) len) ∧ WR M (w_X5_rightUpTo (wI m 7 0 0 5 0) len) s len (K + 20) := by
  have W := wr_5 H 0
  have e := (fault_R (wr_txt W) (wr_len W) (fun i => (wI m 7 0 0 5 0).1 8 3 0 i) 0 ((wI m 7 0 0 5 0).1 7 0 0 8)).1
  have k := r_X5_firstError m len H.2.2.2.2.2.2.2.1 (wr_txt H).1
  refine ⟨?_, wr_le (wr_right W) (by omega)⟩
  unfold v_X4_firstError
  rw [e]
  exact k
theorem face_busiest (H : WR M m s len K) : v_X4_busiest M = v_X5_busiest m ∧ WR M (w_X5_busiest m) s len (K + 20) := by
  have W := wr_5 H 0
  have k := busiest_R M (wI m 7 0 0 5 0) 0 W.1.1
  rw [setS_id] at k
  exact ⟨k, wr_le W (by omega)⟩
theorem face_share (H : WR M m s len K) : v_X4_grantedShare M = v_X5_grantedShare m ∧ WR M (w_X5_grantedShare m) s len (K + 20) := by
  have W := wr_5 H 0
  exact ⟨share_W W, wr_le W (by omega)⟩
theorem face_digest (H : WR M m s len K) (hd : v_dtl (v_X5_share m) = (v_X5_share m).toInt64) : v_X4_digest M = v_X5_digest m len ∧ Rn MX5_digest [vR 7 0 0] m (some (vL (v_X5_digest m len))) (w_X5_digest m len) ∧ WR (w_X4_digest M) (w_X5_digest m len) s len (K + 20) := by
  obtain ⟨a, b, _⟩ := digest_R H hd
  exact ⟨a, r_X5_digest jj_JZ m len (wr_J H) H.2.2.2.2.2.2.2.1 (wr_txt H).1, wr_le b (by omega)⟩
end
