/-! ticksToBurn and burnsNow agree -/
theorem burns_R (M m : PM) (g : Nat) {c : Nat → Nat → Int32} (H : SA c (zz m)) (B : BC c) {r : Nat} (hr : r < 12) : v_X2_ticksToBurn (setS M g c) g (nI r) = v_X5_burnsNow m r := by
  obtain ⟨⟨w, hw, ew⟩, ⟨a, ha, ea⟩, ⟨b, hb, eb⟩, hh⟩ := id B
  obtain ⟨n, hn, en⟩ := hh r hr
  obtain ⟨k, hk, ek⟩ := great_or H.1 hr
  have eg := greatest_R (sa_rgm M m g H) hr
  rw [ek] at eg
  have H' : SA c (zz (w_X5_keep m)) := by rw [zz_keep]; exact H
  have z1 : zz (w_X5_keep m) 1 = nI a := (H'.2.2.1.1 10 1 (by omega) (by omega) (show 1 < 3 by omega)).symm.trans ea
  have z2 : zz (w_X5_keep m) 2 = nI b := (H'.2.2.1.1 10 2 (by omega) (by omega) (show 2 < 3 by omega)).symm.trans eb
  have z0 : zz (w_X5_keep m) 0 = nI w := (H'.2.2.1.1 10 0 (by omega) (by omega) (show 0 < 3 by omega)).symm.trans ew
  have z4 : zz (w_X5_keep m) (101 + r) = nI n := (H'.2.2.1.1 4 r (by omega) (by omega) (show r < 12 from hr)).symm.trans en
  have ek' : v_X5_greatestOf (w_X5_keep m) r = nI k := by rw [← ek]; exact great_cong (fun h hh => by rw [zz_keep])
  unfold v_X2_ticksToBurn v_X5_burnsNow
  rw [eg, at_S M g 4 r c (by omega) (show r < 12 from hr), en]
  by_cases k0 : k = 0
  · subst k0
    rw [if_neg (fun q => q rfl)]
    suffices K : ∀ d j n m2 c2, SA c2 (zz m2) → BC c2 → n ≤ 1000 → zz m2 (101 + r) = nI n → v_X5_greatestOf m2 r = nI 0 → zz m2 0 = nI w → zz m2 1 = nI a → zz m2 2 = nI b → (bnz r d j m2).1 = -1 from (K 300 1 n _ c H' B hn z4 ek' z0 z1 z2).symm
    intro d
    induction d with
    | zero => intro j n m2 c2 _ _ _ _ _ _ _ _; rfl
    | succ d ih =>
      intro j n m2 c2 S2 B2 hn2 y4 yk y0 y1 y2
      obtain ⟨t1, t2⟩ := tick_row S2 B2 hr y4 hn2 yk hk y0 hw y1 ha y2 hb
      have bf : bit (v_X5_tick m2) r = false := by
        cases q : bit (v_X5_tick m2) r
        · rfl
        · exact absurd rfl (t1.mp q).1
      obtain ⟨c3, S3, B3, x0, x1, x2, x4, xk⟩ := t2 bf
      unfold bnz
      rw [if_neg (show ¬ _ from fun q => by rw [(bit_q1 (by omega)).mp q] at bf; exact absurd bf (by decide))]
      exact ih (j + 1) _ _ c3 S3 B3 (htN_le hn2) x4 xk x0 x1 x2
  · rw [if_pos (nI_ne0 (by omega) (by omega))]
    suffices K : ∀ d j n m2 c2, SA c2 (zz m2) → BC c2 → n ≤ 1000 → zz m2 (101 + r) = nI n → v_X5_greatestOf m2 r = nI k → zz m2 0 = nI w → zz m2 1 = nI a → zz m2 2 = nI b → lqr (fun _ : Int32 => (-1 : Int32)) (lq (b_X2_ticksToBurn_1 (setS M g c) g (nI r)) d j (nI n)) = (bnz r d (j + 1) m2).1 from K 300 0 n _ c H' B hn z4 ek' z0 z1 z2
    intro d
    induction d with
    | zero => intro j n m2 c2 _ _ _ _ _ _ _ _; rw [lq_0]; rfl
    | succ d ih =>
      intro j n m2 c2 S2 B2 hn2 y4 yk y0 y1 y2
      obtain ⟨t1, t2⟩ := tick_row S2 B2 hr y4 hn2 yk hk y0 hw y1 ha y2 hb
      have hl := htN_le (k := k) (a := a) (b := b) hn2
      have v : v_X2_heatAfter (setS M g c) g (nI n) (nI k) = nI (htN n k a b) := by
        unfold v_X2_heatAfter
        have a2 := at_S M g 10 2 c (by omega) (show 2 < 3 by omega)
        have a1 := at_S M g 10 1 c (by omega) (show 1 < 3 by omega)
        rw [show v_X1_at (setS M g c) 10 g (2 : Int32) = nI b from a2.trans eb, show v_X1_at (setS M g c) 10 g (1 : Int32) = nI a from a1.trans ea]
        exact heat_C hn2 hk ha hb
      have w0 : v_X1_at (setS M g c) 10 g (0 : Int32) = nI w := (at_S M g 10 0 c (by omega) (show 0 < 3 by omega)).trans ew
      unfold bnz
      by_cases cw : w < htN n k a b
      · have bt : bit (v_X5_tick m2) r = true := t1.mpr ⟨k0, cw⟩
        have hbb : b_X2_ticksToBurn_1 (setS M g c) g (nI r) j (nI n) = .inr (nI (j + 1)) := by
          unfold b_X2_ticksToBurn_1
          rw [eg, v, w0, if_neg (nI_ge cw (by omega))]
        rw [lq_r hbb, if_pos (show _ from (bit_q1 (by omega)).mpr bt)]
        rfl
      · have bf : bit (v_X5_tick m2) r = false := by
          cases q : bit (v_X5_tick m2) r
          · rfl
          · exact absurd (t1.mp q).2 cw
        have hbb : b_X2_ticksToBurn_1 (setS M g c) g (nI r) j (nI n) = .inl (nI (htN n k a b)) := by
          unfold b_X2_ticksToBurn_1
          rw [eg, v, w0, if_pos (nI_le (by omega) (by omega))]
        obtain ⟨c3, S3, B3, x0, x1, x2, x4, xk⟩ := t2 bf
        rw [lq_l hbb, if_neg (show ¬ _ from fun q => by rw [(bit_q1 (by omega)).mp q] at bf; exact absurd bf (by decide))]
        exact ih (j + 1) _ _ c3 S3 B3 hl x4 xk x0 x1 x2
