/-! the face: each call of class and model -/
/-- outcome o of the class; the model's code t and answer b -/
def AG (e : Nat → Int32) (o : OC) (t b : Int32) : Prop := (o = .inl (some (vI b)) ∧ t = 0) ∨ ∃ x, o = .inr x ∧ t = e x ∧ (x = 40 ∨ x = 50 ∨ x = 58)
def e3 (a b c : Int32) (x : Nat) : Int32 := if x = 40 then a else if x = 50 then b else c
theorem rng_or (f : Int32 → Int32) (g : Int32 → Int32) (N : Nat) (hN : N < 2 ^ 31) (hf : ∀ a : Int32, (a < 0 ∨ nI N ≤ a) → f a = 0 ∧ g a = 0) (hg : ∀ j, j < N → f (nI j) = 1 ∧ g (nI j) = 1) (a : Int32) : (f a = 0 ∧ g a = 0) ∨ ∃ j, j < N ∧ a = nI j ∧ f a = 1 ∧ g a = 1 := by
  rcases pk_ix a hN with h | h | ⟨j, hj, rfl⟩
  · exact Or.inl (hf a (Or.inl h))
  · exact Or.inl (hf a (Or.inr h))
  · exact Or.inr ⟨j, hj, rfl, hg j hj⟩
theorem lt_le {a : Int32} {n : Nat} (h : nI (n + 1) ≤ a) (hn : n + 1 < 2 ^ 31) : nI n < a := Int32.lt_of_lt_of_le (nI_lt (by omega) hn) h
theorem hand_or (M m : PM) (a : Int32) : (v_X4_isHand M a = 0 ∧ v_X5_isHand m a = 0) ∨ ∃ j, j < 8 ∧ a = nI j ∧ v_X4_isHand M a = 1 ∧ v_X5_isHand m a = 1 := by
  refine rng_or (v_X4_isHand M) (v_X5_isHand m) 8 (by omega) (fun a h => ?_) (fun j hj => ?_) a
  · unfold v_X4_isHand v_X5_isHand v_X5_within
    by_cases c : a < 0
    · rw [if_pos c, if_pos c]; exact ⟨rfl, rfl⟩
    · have h8 : (8 : Int32) ≤ a := by rcases h with h | h; exact absurd h c; exact h
      rw [if_neg c, if_neg c, if_pos h8, if_pos (show (7 : Int32) < a from lt_le (n := 7) h8 (by omega))]; exact ⟨rfl, rfl⟩
  · unfold v_X4_isHand v_X5_isHand v_X5_within
    rw [if_neg (nI_pos (by omega)), if_neg (nI_pos (by omega)), if_neg (L_nle 8 (n := 8) rfl hj (by omega)), if_neg (show ¬ (7 : Int32) < nI j from nI_nlt (a := 7) (by omega) (by omega))]; exact ⟨rfl, rfl⟩
theorem row_or (M m : PM) (a : Int32) : (v_X4_isRow M a = 0 ∧ v_X5_isRow m a = 0) ∨ ∃ j, j < 12 ∧ a = nI j ∧ v_X4_isRow M a = 1 ∧ v_X5_isRow m a = 1 := by
  refine rng_or (v_X4_isRow M) (v_X5_isRow m) 12 (by omega) (fun a h => ?_) (fun j hj => ?_) a
  · unfold v_X4_isRow v_X5_isRow v_X5_within
    by_cases c : a < 0
    · rw [if_pos c, if_pos c]; exact ⟨rfl, rfl⟩
    · have h8 : (12 : Int32) ≤ a := by rcases h with h | h; exact absurd h c; exact h
      rw [if_neg c, if_neg c, if_pos h8, if_pos (show (11 : Int32) < a from lt_le (n := 11) h8 (by omega))]; exact ⟨rfl, rfl⟩
  · unfold v_X4_isRow v_X5_isRow v_X5_within
    rw [if_neg (nI_pos (by omega)), if_neg (nI_pos (by omega)), if_neg (L_nle 12 (n := 12) rfl hj (by omega)), if_neg (show ¬ (11 : Int32) < nI j from nI_nlt (a := 11) (by omega) (by omega))]; exact ⟨rfl, rfl⟩
theorem set_or (M m : PM) (a : Int32) : (v_X4_isSetting M a = 0 ∧ v_X5_isSetting m a = 0) ∨ ∃ j, j < 3 ∧ a = nI j ∧ v_X4_isSetting M a = 1 ∧ v_X5_isSetting m a = 1 := by
  refine rng_or (v_X4_isSetting M) (v_X5_isSetting m) 3 (by omega) (fun a h => ?_) (fun j hj => ?_) a
  · unfold v_X4_isSetting v_X5_isSetting v_X5_within
    by_cases c : a < 0
    · rw [if_pos c, if_pos c]; exact ⟨rfl, rfl⟩
    · have h8 : (3 : Int32) ≤ a := by rcases h with h | h; exact absurd h c; exact h
      rw [if_neg c, if_neg c, if_pos h8, if_pos (show (2 : Int32) < a from lt_le (n := 2) h8 (by omega))]; exact ⟨rfl, rfl⟩
  · unfold v_X4_isSetting v_X5_isSetting v_X5_within
    rw [if_neg (nI_pos (by omega)), if_neg (nI_pos (by omega)), if_neg (L_nle 3 (n := 3) rfl hj (by omega)), if_neg (show ¬ (2 : Int32) < nI j from nI_nlt (a := 2) (by omega) (by omega))]; exact ⟨rfl, rfl⟩
theorem mode_or (M m : PM) (a : Int32) : (v_X4_isMode M a = 0 ∧ v_X5_isMode m a = 0) ∨ (MO a ∧ v_X4_isMode M a = 1 ∧ v_X5_isMode m a = 1) := by
  unfold v_X4_isMode v_X5_isMode v_X5_within
  by_cases c : a < 1
  · rw [if_pos c]; exact Or.inl ⟨rfl, rfl⟩
  · rw [if_neg c]
    by_cases c2 : (3 : Int32) < a
    · rw [if_pos c2]; exact Or.inl ⟨rfl, rfl⟩
    · rw [if_neg c2]
      obtain ⟨j, h1, h2, rfl⟩ := nI_le2 (a := 1) (b := 3) (by omega) (by omega) c c2
      refine Or.inr ⟨?_, rfl, rfl⟩
      rcases (show j = 1 ∨ j = 2 ∨ j = 3 by omega) with rfl | rfl | rfl
      · exact Or.inl rfl
      · exact Or.inr (Or.inl rfl)
      · exact Or.inr (Or.inr rfl)
theorem there_1 {m : PM} {a b : Int32} (h1 : v_X5_isHand m a = 1) (h2 : v_X5_isRow m b = 1) : v_X5_areThere m a b = 1 := by
  unfold v_X5_areThere
  rw [h1, if_neg (by decide), h2, if_neg (by decide)]
theorem there_h {m : PM} {a b : Int32} (h1 : v_X5_isHand m a = 0) : v_X5_areThere m a b = 0 := by
  unfold v_X5_areThere
  rw [if_pos h1]
theorem there_r {m : PM} {a b : Int32} (h1 : v_X5_isRow m b = 0) : v_X5_areThere m a b = 0 := by
  unfold v_X5_areThere
  by_cases c : v_X5_isHand m a = 0
  · rw [if_pos c]
  · rw [if_neg c, if_pos h1]
theorem wr_ql {M m : PM} {s len K : Nat} (H : WR M m s len K) : QL m := ql_of (rq_qa H.1.1.2.1)
theorem wr_qa {M m : PM} {s len K : Nat} (H : WR M m s len K) : QA (zz m) := rq_qa H.1.1.2.1
theorem wr_J {M m : PM} {s len K : Nat} (H : WR M m s len K) : JZ (zz m) := ⟨_, H.1.1, H.1.2.1⟩
theorem wr_wait {M m : PM} {s len K h : Nat} (H : WR M m s len K) (hh : h < 8) : v_X2_isWaiting M 0 (nI h) = v_X5_waits m (nI h) := (waits_R (M := M) (m := m) (g := 0) (rm := clT M 0 2) (rp := clT M 0 3) (show RQ (clT M 0 1) _ _ _ from H.1.1.2.1) hh).symm
/-- behind saving -/
theorem sv_W {M m : PM} {s len K : Nat} (H : WR M m s len K) : WR (w_X0_save M 0) (svM m s) (svN s) len K ∧ (svM m s).1 7 0 0 5 = 0 := by
  refine ⟨(save_R (wr_5 H 0)).1, ?_⟩
  unfold svM w_X5_save sets wI
  dsimp only
  rw [if_neg (by omega), if_neg (by omega), if_pos ⟨rfl, rfl, rfl, rfl⟩]
section
variable {M m : PM} {s len K : Nat}
end
