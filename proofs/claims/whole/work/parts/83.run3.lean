/-! the requests of the text are carried out -/
section
variable {M m : PM} {len : Nat}
theorem dgc_N (H : TXT M m len) : ∀ n i, i + n ≤ len → dgc M n (nI i) = dgN (tex m) n i := by
  intro n
  induction n with
  | zero => intro i _; rfl
  | succ n ih =>
    intro i hi
    unfold dgc dgN
    rw [txt_at H (show i < len by omega), nI_1, ih (i + 1) (by omega)]
    rfl
theorem bd_N {a b : Nat} (ha : a < 2 ^ 31) (hb : b < 2 ^ 31) : bdist (nI a) (nI b) = a - b := by
  unfold bdist
  rw [nI_toInt ha, nI_toInt hb]
  omega
theorem deed_R (H : TXT M m len) (hl : M.1 6 0 0 1 = nI len) {s : Nat} (hs : s < len) : v_X3_deedFrom M (nI s) = nI (EN (tex m) len s) := by
  have h60 := H.1
  unfold v_X3_deedFrom EN
  rw [hl, nI_1, bd_N (by omega) (by omega), dgc_N H _ _ (by omega), nI_add]
theorem number_R (H : TXT M m len) {s e : Nat} (h1 : s < e) (h2 : e ≤ len) : v_X3_numberBetween M (nI s) (nI e) = nmN (tex m) s (e - (s + 1)) := by
  have h60 := H.1
  unfold v_X3_numberBetween
  rw [nI_1, bd_N (by omega) (by omega)]
  refine lp_inv (b_X3_numberBetween_1 M (nI s) (nI e)) (e - (s + 1)) (fun j x => x = nmN (tex m) s j) (fun j x hj hx => ?_) _ 0 0 (Nat.add_zero _) rfl
  unfold b_X3_numberBetween_1
  rw [nI_1, nI_add, txt_at H (show s + 1 + j < len by omega), hx]
  rfl
/-- one request of the text -/
theorem carry_R {c : Nat → Nat → Int32} {h r p : Nat} {K : Nat} (H : TXT M m len) (hS : SLR c (zz m) K) (hM : M = setS M 0 c) (hp : PT (tex m) len (pt m) p) (hh : h < 8) (hr : r < 12) (e1 : pt m (3 * p) = nI h) (e2 : pt m (3 * p + 1) = nI r) (e3 : pt m (3 * p + 2) = 0 ∨ MO (pt m (3 * p + 2))) : v_X4_carryOut M (nI (St (tex m) len p)) (nI (EN (tex m) len (St (tex m) len p))) = v_X5_carries m p ∧ ∃ c2, w_X4_carryOut M (nI (St (tex m) len p)) (nI (EN (tex m) len (St (tex m) len p))) = setS M 0 c2 ∧ SLR c2 (zz (w_X5_carries m p)) (K + 1) := by
  obtain ⟨p1, p2, p3, p4, p5⟩ := hp
  have h60 := H.1
  have sE : St (tex m) len p < EN (tex m) len (St (tex m) len p) := by unfold EN; omega
  have a1 := txt_at H (show St (tex m) len p < len by omega)
  have a2 := txt_at H p1
  have eH : v_X1_at M 11 0 (nI (St (tex m) len p)) - 97 = nI h := by rw [a1, ← p2, e1]
  have eR : v_X3_numberBetween M (nI (St (tex m) len p)) (nI (EN (tex m) len (St (tex m) len p))) = nI r := by rw [number_R H sE (by omega), ← p3, e2]
  have eM : v_X4_modeOf M (v_X1_at M 11 0 (nI (EN (tex m) len (St (tex m) len p)))) = pt m (3 * p + 2) := by
    obtain ⟨k, _, k2, k3, _⟩ := H.2 _ p1
    rw [a2, p4]
    rw [k3] at p5 ⊢
    exact md_eq k (by omega) p5
  have nH : pH m p = h := by unfold pH; rw [e1]; exact nI_clamp (by omega)
  have nR : pR m p = r := by unfold pR; rw [e2]; exact nI_clamp (by omega)
  have A := hS.1
  have hR : RG M m 0 := by rw [hM]; exact sa_rgm M m 0 A
  have ew : v_X2_isWaiting M 0 (nI h) = v_X5_waits m (nI h) := (waits_R (M := M) (m := m) (g := 0) (rm := c 2) (rp := c 3) (by rw [hM, cl_setS M 0 1 c (by omega)]; exact A.2.1) hh).symm
  unfold v_X4_carryOut w_X4_carryOut v_X5_carries w_X5_carries v_X5_carries
  rw [eM, eH, eR, nH, nR, e1, ew, canRelease_R hR hh hr]
  by_cases c0 : pt m (3 * p + 2) = 0
  · have c0' : ¬ ¬ pt m (3 * p + 2) = 0 := fun q => q c0
    simp only [if_neg c0', if_pos c0]
    have n0 : ¬ ¬ (0 : Int32) = 0 := fun q => q rfl
    have n1 : ¬ (1 : Int32) = 0 := by decide
    rcases z_X5_canRelease m h r with z | z
    · rw [z, if_neg n0, if_neg n0, if_pos rfl]
      exact ⟨rfl, c, hM, hS.1, hS.2.1, cn_le hS.2.2 (by omega)⟩
    · rw [z, if_pos n1, if_pos n1, if_neg n1]
      obtain ⟨_, c2, q2, q3, q4⟩ := release_R M m 0 A hh hr (can_c A hh (by rw [z]; decide))
      refine ⟨rfl, c2, ?_, q3, bc_c hS.2.1 (q4.2.2 4 (by omega)) (q4.2.2 10 (by omega)), cn_le (q4.2.1 _ hS.2.2) (by omega)⟩
      rw [← hM] at q2
      exact q2
  · rw [if_pos c0, if_pos c0, if_neg c0]
    have hmo : MO (pt m (3 * p + 2)) := by
      rcases e3 with e | e
      · exact absurd e c0
      · exact e
    by_cases cw : v_X5_waits m (nI h) = 0
    · rw [if_pos cw, if_pos cw, if_neg (by decide), if_neg c0]
      obtain ⟨_, ⟨c2, q2, q3, q4⟩, _⟩ := takeAsking_R M m 0 A hh hr hmo ((wait_c A hh).mp cw)
      refine ⟨rfl, c2, ?_, q3, bc_c hS.2.1 (q4.2 4 (by omega)) (q4.2 10 (by omega)), q4.1 _ hS.2.2⟩
      rw [← hM] at q2
      exact q2
    · rw [if_neg cw, if_neg cw, if_pos rfl]
      exact ⟨rfl, c, hM, hS.1, hS.2.1, cn_le hS.2.2 (by omega)⟩
end
theorem oz_U {m m2 : PM} (len : Nat) (h : OZ m m2) : OZ (wI m 7 0 0 3 (nI len)) (wI m2 7 0 0 3 (nI len)) := by
  refine ⟨fun t k g i c => ?_, h.2⟩
  unfold wI
  dsimp only
  by_cases q : t = 7 ∧ k = 0 ∧ g = 0 ∧ i = 3
  · rw [if_pos q, if_pos q]
  · rw [if_neg q, if_neg q]; exact h.1 t k g i c
theorem wr_txt {M m : PM} {s len K : Nat} (H : WR M m s len K) : TXT M m len := ⟨H.2.2.2.2.2.1, H.2.2.2.2.2.2.2.2⟩
theorem wr_len {M m : PM} {s len K : Nat} (H : WR M m s len K) : M.1 6 0 0 1 = nI len := H.2.2.2.2.2.2.1
theorem tex_U (m : PM) (len : Nat) : tex (wI m 7 0 0 3 (nI len)) = tex m := by
  funext i
  unfold tex wI
  dsimp only
  rw [if_neg (by omega)]
/-- d requests, from the p-th on, t turns at most -/
theorem run_loop (M0 : PM) {len Q : Nat} {tx f : Nat → Int32} (hP : ∀ p, p < Q + 1 → PT tx len f p) (hO : ∀ p, p < Q + 1 → PO f p) (hE : EN tx len (St tx len Q) + 1 = len) : ∀ d t p j (M m : PM) (s K : Nat), d + p = Q + 1 → d ≤ t → tex m = tx → pt m = f → WR M (wI m 7 0 0 3 (nI len)) s len K → (lqv (lq (b_X4_run_1 M0) t j (nI p, nI (St tx len p), M))).1 = nI (rnz d p m).1 ∧ WR (lqv (lq (b_X4_run_1 M0) t j (nI p, nI (St tx len p), M))).2.2 (wI (rnz d p m).2 7 0 0 3 (nI len)) s len (K + d) := by
  intro d
  induction d with
  | zero =>
    intro t p j M m s K hd ht htx hf H
    have h60 := (wr_txt H).1
    cases t with
    | zero => rw [lq_0]; exact ⟨rfl, H⟩
    | succ t =>
      obtain rfl : p = Q + 1 := by omega
      have hb : b_X4_run_1 M0 j (nI (Q + 1), nI (St tx len (Q + 1)), M) = .inr (nI (Q + 1), nI (St tx len (Q + 1)), M) := by
        unfold b_X4_run_1
        dsimp only
        rw [wr_len H, if_pos]
        show nI len ≤ nI (EN tx len (St tx len Q) + 2)
        exact nI_le (by omega) (by omega)
      rw [lq_r hb]
      exact ⟨rfl, H⟩
  | succ d ih =>
    intro t p j M m s K hd ht htx hf H
    obtain ⟨t, rfl⟩ : ∃ t', t = t' + 1 := ⟨t - 1, by omega⟩
    have T := wr_txt H
    have h60 := T.1
    have T' : TXT M m len := by
      refine ⟨T.1, fun i hi => ?_⟩
      have := T.2 i hi
      rw [tex_U] at this
      exact this
    have hp := hP p (by omega)
    obtain ⟨h, r, hh, hr, e1, e2, e3⟩ := hO p (by omega)
    subst htx
    subst hf
    have hS : SLR (clT M 0) (zz m) K := by have := H.1; rw [zz_w7] at this; exact this
    have e3' : pt m (3 * p + 2) = 0 ∨ MO (pt m (3 * p + 2)) := by
      rcases e3 with e | e | e | e
      · exact Or.inl e
      · exact Or.inr (Or.inl e)
      · exact Or.inr (Or.inr (Or.inl e))
      · exact Or.inr (Or.inr (Or.inr e))
    obtain ⟨cv, c2, cw, cS⟩ := carry_R (c := clT M 0) T' hS (setS_id M 0).symm hp hh hr e1 e2 e3'
    have sl : St (tex m) len p < len := by
      have := hp.1
      have : St (tex m) len p < EN (tex m) len (St (tex m) len p) := by unfold EN; omega
      omega
    have ed := deed_R T' (wr_len H) sl
    have W2 : WR (setS M 0 c2) (wI (w_X5_carries m p) 7 0 0 3 (nI len)) s len (K + 1) := wr_oz H (by rw [zz_w7]; exact cS) (by omega) (oz_U len (oz_carries m p))
    have nle : ¬ nI len ≤ nI (St (tex m) len p) := nI_ge sl (by omega)
    show _ = nI (if v_X5_carries m p = 0 then (p, w_X5_carries m p) else rnz d (p + 1) (w_X5_carries m p)).1 ∧ WR _ (wI (if v_X5_carries m p = 0 then (p, w_X5_carries m p) else rnz d (p + 1) (w_X5_carries m p)).2 7 0 0 3 (nI len)) s len (K + (d + 1))
    by_cases c0 : v_X5_carries m p = 0
    · have hb : b_X4_run_1 M0 j (nI p, nI (St (tex m) len p), M) = .inr (nI p, nI (St (tex m) len p), setS M 0 c2) := by
        unfold b_X4_run_1
        dsimp only
        rw [wr_len H, if_neg nle, ed, cv, cw, if_neg (fun q => q c0)]
      rw [lq_r hb, if_pos c0]
      exact ⟨rfl, wr_le W2 (by omega)⟩
    · have hb : b_X4_run_1 M0 j (nI p, nI (St (tex m) len p), M) = .inl (nI (p + 1), nI (St (tex m) len (p + 1)), setS M 0 c2) := by
        unfold b_X4_run_1
        dsimp only
        rw [wr_len H, if_neg nle, ed, cv, cw, if_pos c0, nI_1, show (2 : Int32) = nI 2 from rfl, nI_add]
        rfl
      rw [lq_l hb, if_neg c0]
      have o := oz_carries m p
      have := ih t (p + 1) (j + 1) (setS M 0 c2) (w_X5_carries m p) s (K + 1) (by omega) (by omega) (by funext i; exact o.1 8 2 0 i (by omega)) (by funext i; exact o.1 8 3 0 i (by omega)) W2
      rw [show K + (d + 1) = K + 1 + d by omega]
      exact this
