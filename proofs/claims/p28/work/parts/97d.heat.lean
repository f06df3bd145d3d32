/-! settings, ticks, heat and burnt hands: the law's arrays and the row of numbers -/
theorem la_z {a : Nat → Nat → Int32} {z z2 : Nat → Int32} {s s2 : Nat × Int32} {a2 : Nat → Nat → Int32} (H : LA a z s) (ha : ∀ k, ¬ k = 0 → ¬ k = 4 → a2 k = a k) (hz : ∀ i, (5 ≤ i ∧ i < 101) ∨ (125 ≤ i ∧ i < 361) → z2 i = z i) (h0 : LT a2 z2 s2) : LA a2 z2 s2 := by
  obtain ⟨h1, h2, h3, h4⟩ := H
  refine ⟨⟨fun h2 r2 g1 g2 => ?_, fun h2 r2 g1 g2 c => ?_⟩, ⟨fun r hr => ?_, fun r g1 g2 => ?_⟩, fun k2 hk2 => ⟨fun h2 g1 => ?_, fun h2 g1 g2 => ?_⟩, h0⟩
  · rw [ha 1 (by decide) (by decide), hz _ (by omega)]; exact h1.1 h2 r2 g1 g2
  · rw [hz _ (by omega)]; exact h1.2 h2 r2 g1 g2 c
  · obtain ⟨n, n1, n2, n3, n4⟩ := h2.1 r hr
    refine ⟨n, n1, by rw [hz _ (by omega)]; exact n2, by rw [ha 3 (by decide) (by decide)]; exact n3, fun p hp => ?_⟩
    obtain ⟨w, md, w1, w2, w3, w4, w5, w6⟩ := n4 p hp
    exact ⟨w, md, w1, w2, w3, by rw [hz _ (by omega)]; exact w4, by rw [hz _ (by omega)]; exact w5, by rw [ha 2 (by decide) (by decide)]; exact w6⟩
  · rw [hz _ (by omega)]; exact h2.2 r g1 g2
  · rw [ha (5 + k2) (by omega) (by omega), hz _ (by omega)]; exact (h3 k2 hk2).1 h2 g1
  · rw [hz _ (by omega)]; exact (h3 k2 hk2).2 h2 g1 g2
theorem hsum_o {z z2 : Nat → Int32} (h : ∀ i, 113 ≤ i → i < 125 → z2 i = z i) : hsum z2 = hsum z := by
  unfold hsum
  refine lp_cong 12 (fun j x hj => ?_) 12 0 0 rfl
  rw [h _ (by omega) (by omega)]
theorem la_heat {a : Nat → Nat → Int32} {z : Nat → Int32} {s : Nat × Int32} (H : LA a z s) {r : Nat} (hr : r < 6) (x : Int32) : LA (up2 a 4 r x) (upd z (101 + r) x) s := by
  obtain ⟨t1, t2, t3, t4, t5, t6, t7, t8⟩ := H.2.2.2
  refine la_z H (fun k _ hk => up2_o _ _ _ _ hk) (fun i hi => upd_o _ _ _ (by omega)) ⟨fun r2 h2 => ?_, ?_⟩
  · by_cases e : r2 = r
    · rw [e, up2_s, upd_s]
    · rw [up2_i _ _ _ e, upd_o _ _ _ (by omega)]; exact t1 r2 h2
  · rw [up2_o _ _ _ _ (by decide), upd_o _ _ _ (by omega), upd_o _ _ _ (by omega), upd_o _ _ _ (by omega), upd_o _ _ _ (by omega), upd_o _ _ _ (by omega), hsum_o (fun i g1 g2 => upd_o z _ x (by omega))]
    exact ⟨t2, t3, t4, t5, t6, t7, t8⟩
theorem la_hi {a : Nat → Nat → Int32} {z : Nat → Int32} {s : Nat × Int32} (H : LA a z s) {r : Nat} (h6 : 6 ≤ r) (hr : r < 12) (x : Int32) : LA a (upd z (101 + r) x) s := by
  obtain ⟨t1, t2, t3, t4, t5, t6, t7, t8⟩ := H.2.2.2
  refine la_z H (fun k _ _ => rfl) (fun i hi => upd_o _ _ _ (by omega)) ⟨fun r2 h2 => ?_, ?_⟩
  · rw [upd_o _ _ _ (by omega)]; exact t1 r2 h2
  · rw [upd_o _ _ _ (by omega), upd_o _ _ _ (by omega), upd_o _ _ _ (by omega), upd_o _ _ _ (by omega), upd_o _ _ _ (by omega), hsum_o (fun i g1 g2 => upd_o z _ x (by omega))]
    exact ⟨t2, t3, t4, t5, t6, t7, t8⟩
theorem la_3 {a : Nat → Nat → Int32} {z : Nat → Int32} {s : Nat × Int32} (H : LA a z s) (x : Int32) : LA (up2 a 0 0 x) (upd z 3 x) s := by
  obtain ⟨t1, t2, t3, t4, t5, t6, t7, t8⟩ := H.2.2.2
  refine la_z H (fun k hk _ => up2_o _ _ _ _ hk) (fun i hi => upd_o _ _ _ (by omega)) ⟨fun r2 h2 => ?_, ?_, ?_, ?_, ?_, ?_, ?_, ?_⟩
  · rw [up2_o _ _ _ _ (by decide), upd_o _ _ _ (by omega)]; exact t1 r2 h2
  · rw [up2_s, upd_s]
  · rw [up2_i _ _ _ (by decide), upd_o _ _ _ (by omega)]; exact t3
  · rw [up2_i _ _ _ (by decide)]; exact t4
  · rw [up2_i _ _ _ (by decide), upd_o _ _ _ (by omega)]; exact t5
  · rw [up2_i _ _ _ (by decide), upd_o _ _ _ (by omega)]; exact t6
  · rw [up2_i _ _ _ (by decide), upd_o _ _ _ (by omega)]; exact t7
  · rw [up2_i _ _ _ (by decide), hsum_o (fun i g1 g2 => upd_o z _ x (by omega))]; exact t8
theorem la_4 {a : Nat → Nat → Int32} {z : Nat → Int32} {s : Nat × Int32} (H : LA a z s) (x : Int32) : LA (up2 a 0 1 x) (upd z 4 x) s := by
  obtain ⟨t1, t2, t3, t4, t5, t6, t7, t8⟩ := H.2.2.2
  refine la_z H (fun k hk _ => up2_o _ _ _ _ hk) (fun i hi => upd_o _ _ _ (by omega)) ⟨fun r2 h2 => ?_, ?_, ?_, ?_, ?_, ?_, ?_, ?_⟩
  · rw [up2_o _ _ _ _ (by decide), upd_o _ _ _ (by omega)]; exact t1 r2 h2
  · rw [up2_i _ _ _ (by decide), upd_o _ _ _ (by omega)]; exact t2
  · rw [up2_s, upd_s]
  · rw [up2_i _ _ _ (by decide)]; exact t4
  · rw [up2_i _ _ _ (by decide), upd_o _ _ _ (by omega)]; exact t5
  · rw [up2_i _ _ _ (by decide), upd_o _ _ _ (by omega)]; exact t6
  · rw [up2_i _ _ _ (by decide), upd_o _ _ _ (by omega)]; exact t7
  · rw [up2_i _ _ _ (by decide), hsum_o (fun i g1 g2 => upd_o z _ x (by omega))]; exact t8
theorem la_set0 {a : Nat → Nat → Int32} {z : Nat → Int32} {s : Nat × Int32} (H : LA a z s) {k : Nat} (hk : k < 3) (x : Int32) : LA (up2 a 0 (3 + k) x) (upd z (0 + k) x) s := by
  obtain ⟨t1, t2, t3, t4, t5, t6, t7, t8⟩ := H.2.2.2
  have hs : ∀ j, j < 3 → a 0 (3 + j) = z (0 + j) → up2 a 0 (3 + k) x 0 (3 + j) = upd z (0 + k) x (0 + j) := fun j hj e => by
    by_cases q : j = k
    · rw [q, up2_s, upd_s]
    · rw [up2_i _ _ _ (by omega), upd_o _ _ _ (by omega)]; exact e
  refine la_z H (fun k hk _ => up2_o _ _ _ _ hk) (fun i hi => upd_o _ _ _ (by omega)) ⟨fun r2 h2 => ?_, ?_, ?_, ?_, hs 0 (by omega) t5, hs 1 (by omega) t6, hs 2 (by omega) t7, ?_⟩
  · rw [up2_o _ _ _ _ (by decide), upd_o _ _ _ (by omega)]; exact t1 r2 h2
  · rw [up2_i _ _ _ (by omega), upd_o _ _ _ (by omega)]; exact t2
  · rw [up2_i _ _ _ (by omega), upd_o _ _ _ (by omega)]; exact t3
  · rw [up2_i _ _ _ (by omega)]; exact t4
  · rw [up2_i _ _ _ (by omega), hsum_o (fun i g1 g2 => upd_o z _ x (by omega))]; exact t8
theorem up2_up2 (a : Nat → Nat → Int32) (k i : Nat) (x y : Int32) : up2 (up2 a k i x) k i y = up2 a k i y := by
  funext k2 i2
  unfold up2
  by_cases c : k2 = k ∧ i2 = i
  · rw [if_pos c, if_pos c]
  · rw [if_neg c, if_neg c, if_neg c]
/-- the greatest mode held of a row -/
def grF (a : Nat → Nat → Int32) (j : Nat) (p : Nat) (x : Int32) : Int32 := if a 1 (6 * p + j) ≤ x then x else a 1 (6 * p + j)
def gr5 (a : Nat → Nat → Int32) (j : Nat) : Int32 := lp (grF a j) 5 0 0
def LM (a : Nat → Nat → Int32) : Prop := ∀ p j, p < 5 → j < 6 → a 1 (6 * p + j) = 0 ∨ MO (a 1 (6 * p + j))
theorem gr5_or {a : Nat → Nat → Int32} (H : LM a) {j : Nat} (hj : j < 6) : ∃ k, k ≤ 3 ∧ gr5 a j = nI k := by
  refine lp_inv (grF a j) 5 (fun _ x => ∃ k, k ≤ 3 ∧ x = nI k) (fun p x hp hx => ?_) 5 0 0 rfl ⟨0, by omega, rfl⟩
  unfold grF
  split
  · exact hx
  · rcases H p j hp hj with e | e | e | e
    · exact ⟨0, by omega, e⟩
    · exact ⟨1, by omega, e⟩
    · exact ⟨2, by omega, e⟩
    · exact ⟨3, by omega, e⟩
theorem gr5_g {a : Nat → Nat → Int32} {m : PM} (H : LK a (zz m)) (hM : LM a) {j : Nat} (hj : j < 6) : v_X5_greatestOf m j = gr5 a j := by
  unfold v_X5_greatestOf
  rw [show (8 : Nat) = 5 + 3 from rfl, lp_add]
  have e : lp (b_X5_greatestOf_1 m j) 5 0 0 = gr5 a j := lp_cong 5 (fun p x hp => by
    unfold b_X5_greatestOf_1 grF
    rw [show v_X5_lockOf m p j = a 1 (6 * p + j) from (H.1 p j hp hj).symm]) 5 0 0 rfl
  rw [e]
  refine lp_id _ 8 _ 3 (0 + 5) rfl (fun i h1 h2 => ?_)
  obtain ⟨k, k3, ek⟩ := gr5_or hM hj
  unfold b_X5_greatestOf_1
  rw [show v_X5_lockOf m i j = 0 from H.2 i j h2 (by omega) (Or.inl (by omega)), ek, if_pos (nI_pos' (by omega))]
theorem lm_sa {a : Nat → Nat → Int32} {m : PM} {c : Nat → Nat → Int32} (H : LK a (zz m)) (S : SA c (zz m)) : LM a := fun p j hp hj => by
  rw [H.1 p j hp hj]
  exact (S.1 p j (by omega) (by omega)).2
/-- the heat of a row behind a tick -/
def htA (a : Nat → Nat → Int32) (j : Nat) : Int32 := a 4 j + (if gr5 a j = 0 then -(a 0 5) else gr5 a j * a 0 4)
def clp (x : Int32) : Int32 := if 0 ≤ x then (if x ≤ (1000 : Int32) then x else 1000) else 0
theorem la_tick1 {a : Nat → Nat → Int32} {m : PM} {s : Nat × Int32} (H : LA a (zz m) s) (hM : LM a) {j : Nat} (hj : j < 6) : LA (up2 a 4 j (clp (htA a j))) (zz (b_X5_tick_1 j m)) s := by
  have e : heatN m j = htA a j := by
    unfold heatN htA
    rw [gr5_g H.1 hM hj]
    obtain ⟨k, k3, ek⟩ := gr5_or hM hj
    obtain ⟨t1, t2, t3, t4, t5, t6, t7, t8⟩ := H.2.2.2
    have e1 : m.1 8 0 0 (101 + j) = a 4 j := (t1 j hj).symm
    have e2 : m.1 8 0 0 2 = a 0 5 := t7.symm
    have e3 : m.1 8 0 0 1 = a 0 4 := t6.symm
    rw [e1, e2, e3, ek]
    by_cases k0 : k = 0
    · subst k0
      rw [if_pos (show nI 0 ≤ 0 by decide), if_pos (show nI 0 = 0 from rfl)]
    · rw [if_neg (nI_nle (by omega) (by omega)), if_neg (nI_ne0 (by omega) (by omega))]
  unfold b_X5_tick_1
  rw [zz_wI, e]
  exact la_heat H hj _
theorem la_tick1h {a : Nat → Nat → Int32} {s : Nat × Int32} {m : PM} (H : LA a (zz m) s) : LA a (zz (lp b_X5_tick_1 6 6 m)) s :=
  lp_inv b_X5_tick_1 12 (fun j t => 6 ≤ j ∧ LA a (zz t) s) (fun j t hj ht => ⟨by omega, by
    unfold b_X5_tick_1
    rw [zz_wI]
    exact la_hi ht.2 ht.1 hj _⟩) 6 6 m rfl ⟨Nat.le_refl 6, H⟩ |>.2
theorem burn_no {m : PM} {j : Nat} (h : ∀ p, p < 8 → zz m (5 + 12 * p + j) = 0) : lp (b_X5_burn_1 m j) 8 0 ((0 : Int32), m) = (0, m) := by
  refine lp_id _ 8 _ 8 0 rfl (fun i _ hi => ?_)
  unfold b_X5_burn_1
  dsimp only
  have e : v_X5_lockOf m i j ≤ 0 := by rw [show v_X5_lockOf m i j = 0 from h i hi]; decide
  rw [if_pos e, if_pos e]
theorem la_tick2h {a : Nat → Nat → Int32} {s : Nat × Int32} {q : Int32 × PM} (H : LA a (zz q.2) s) : LA a (zz (lp b_X5_tick_2 6 6 q).2) s :=
  lp_inv b_X5_tick_2 12 (fun j t => 6 ≤ j ∧ LA a (zz t.2) s) (fun j t hj ht => ⟨by omega, by
    have hz : ∀ p, p < 8 → zz t.2 (5 + 12 * p + j) = 0 := fun p hp => ht.2.1.2 p j hp hj (Or.inr ht.1)
    have e := burn_no hz
    have v0 : tickV t.2 j = 0 := by
      unfold tickV
      split
      · rfl
      · unfold v_X5_burn
        rw [e]
    unfold b_X5_tick_2
    dsimp only
    rw [v0, if_pos (show (0 : Int32) ≤ 0 by decide)]
    unfold tickW
    split
    · exact ht.2
    · unfold w_X5_burn
      rw [e, zz_wI]
      refine la_cong ht.2 (fun i hi => ?_)
      by_cases q : i = 4
      · rw [q, upd_s]
        show zz t.2 4 + 0 = zz t.2 4
        rw [Int32.add_zero]
      · exact upd_o _ _ _ q⟩) 6 6 q rfl ⟨Nat.le_refl 6, H⟩ |>.2
