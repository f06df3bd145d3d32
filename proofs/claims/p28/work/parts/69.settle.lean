/-! the place of an asking holder; grant, settle -/
theorem zz_zm (z : Nat → Int32) : zz (zm z) = z := zz_setz _ z
theorem rg_S (M : PM) (g : Nat) {c : Nat → Nat → Int32} {z : Nat → Int32} (h1 : RK (c 0) z) (h2 : RQ (c 1) (c 2) (c 3) z) : RG (setS M g c) (zm z) g := by
  unfold RG
  rw [cl_setS M g 0 c (by omega), cl_setS M g 1 c (by omega), cl_setS M g 2 c (by omega), cl_setS M g 3 c (by omega), zz_zm]
  exact ⟨h1, h2⟩
theorem placeFor_R {M m : PM} {g r : Nat} (hR : RG M m g) (hF : HF (zz m)) (hr : r < 12) : v_X2_placeForHolder M g (nI r) = nI (hpz (zz m) r (qn m r) 0) := by
  obtain ⟨n, hn8, en, kn⟩ := hR.2.1 r hr
  have eq : qn m r = n := by unfold qn; rw [en]; exact nI_clamp (by omega)
  rw [eq]
  have hs := hpz_s (zz m) r n 0
  have hle := hpz_le (zz m) r n 0
  generalize hpz (zz m) r n 0 = K at hs hle ⊢
  have kk := lp_inv (b_X2_placeForHolder_1 M g (nI r)) 8 (fun j s => ∃ k, k ≤ K ∧ s = nI k ∧ ∀ i p, i < j → cl M g 1 i = nI r → ¬ zz m (5 + 12 * i + r) ≤ 0 → p < n → cl M g 3 i = nI p → p + 1 ≤ k) (fun j s hj hk => ?_) 8 0 0 rfl ⟨0, by omega, rfl, fun i p hi => by omega⟩
  · obtain ⟨k, hk, e, hall⟩ := kk
    have ek : k = K := by
      by_cases ck : k < K
      · obtain ⟨h0, a1, a2, a3, a4, _⟩ := kn (K - 1) (by omega)
        have l := hs.1 (K - 1) (by omega) (by omega)
        rw [lkz_h a1 a2] at l
        have := hall h0 (K - 1) a1 a3 l (by omega) a4
        omega
      · omega
    rw [← ek]
    exact e
  · obtain ⟨k, hk, e, hall⟩ := hk
    unfold b_X2_placeForHolder_1
    rw [at_in (k := 1) (show j < 8 from hj), lock_R hR hj hr, at_in (k := 3) (show j < 8 from hj)]
    have el : v_X5_lockOf m j r = zz m (5 + 12 * j + r) := rfl
    rw [el]
    by_cases c1 : cl M g 1 j = nI r
    · rw [if_neg (fun q => q c1)]
      by_cases c2 : zz m (5 + 12 * j + r) ≤ 0
      · rw [if_pos c2]
        refine ⟨k, hk, e, fun i p hi h1 h2 => ?_⟩
        by_cases ci : i = j
        · subst ci; exact absurd c2 h2
        · exact hall i p (by omega) h1 h2
      · rw [if_neg c2]
        obtain ⟨p, hp, ep, ew⟩ : ∃ p, p < n ∧ cl M g 3 j = nI p ∧ zz m (137 + 8 * r + p) = nI j := by
          rcases hR.2.2 j hj with ⟨a, _⟩ | ⟨r2, n2, p2, h1, h2, h3, h4, h5, h6, h7⟩
          · rw [c1] at a; exact absurd a (nI_nm1 (by omega))
          · rw [c1] at h5
            obtain rfl := (nI_eq (by omega) (by omega)).mp h5
            rw [en] at h2
            obtain rfl := (nI_eq (by omega) (by omega)).mp h2
            exact ⟨p2, h4, h6, h7⟩
        have pK : p < K := by
          by_cases c3 : p < K
          · exact c3
          · exfalso
            have l : ¬ lkz (zz m) r p ≤ 0 := by rw [lkz_h hj ew]; exact c2
            have h0 := hs.2 (by omega)
            by_cases ce : p = K
            · rw [ce] at l; exact l h0
            · exact hF r n K p hr en hn8 (by omega) hp l h0
        rw [ep, nI_1, e]
        by_cases c4 : k < p + 1
        · rw [if_pos (nI_lt c4 (by omega))]
          refine ⟨p + 1, by omega, rfl, fun i p' hi h1 h2 h3 h4 => ?_⟩
          by_cases ci : i = j
          · subst ci
            rw [ep] at h4
            have := (nI_eq (by omega) (by omega)).mp h4
            omega
          · have := hall i p' (by omega) h1 h2 h3 h4
            omega
        · rw [if_neg (nI_nlt (by omega) (by omega))]
          refine ⟨k, hk, rfl, fun i p' hi h1 h2 h3 h4 => ?_⟩
          by_cases ci : i = j
          · subst ci
            rw [ep] at h4
            have := (nI_eq (by omega) (by omega)).mp h4
            omega
          · exact hall i p' (by omega) h1 h2 h3 h4
    · rw [if_pos c1]
      refine ⟨k, hk, e, fun i p hi h1 h2 => ?_⟩
      by_cases ci : i = j
      · subst ci; exact absurd h1 c1
      · exact hall i p (by omega) h1 h2
/-- all of a state but its ticks and what is burnt in all -/
def SA (c : Nat → Nat → Int32) (z : Nat → Int32) : Prop := RK (c 0) z ∧ RQ (c 1) (c 2) (c 3) z ∧ SC c z ∧ HF z
theorem sa_rg (M : PM) (g : Nat) {c : Nat → Nat → Int32} {z : Nat → Int32} (H : SA c z) : RG (setS M g c) (zm z) g := rg_S M g H.1 H.2.1
theorem plS_A (M : PM) (g : Nat) {c : Nat → Nat → Int32} {z : Nat → Int32} (H : SA c z) {h r n : Nat} (hh : h < 8) (hr : r < 12) (hn : z (125 + r) = nI n) (h8 : n ≤ 8) : plS (setS M g c) g h r = nI (plz z r h n) := by
  have hR := sa_rg M g H
  have eq : qn (zm z) r = n := by unfold qn; rw [zz_zm, hn]; exact nI_clamp (by omega)
  unfold plS plz
  rw [lock_R hR hh hr, (queueLength_R hR hr).1, placeFor_R hR (by rw [zz_zm]; exact H.2.2.2) hr, eq, zz_zm]
  have el : v_X5_lockOf (zm z) h r = z (5 + 12 * h + r) := congrFun (zz_zm z) _
  rw [el]
  split <;> rfl
/-- counts of asking and granting -/
def CN (c : Nat → Nat → Int32) (K : Nat) : Prop := ∀ h, h < 8 → ∃ a q : Nat, c 9 h = nI a ∧ c 8 h = nI q ∧ (q + (if c 1 h = -1 then 0 else 1)) ≤ a ∧ a ≤ K
/-- no hand begins to wait -/
def MC (c c2 : Nat → Nat → Int32) : Prop := (∀ h, h < 8 → ¬ c2 1 h = -1 → ¬ c 1 h = -1) ∧ (∀ K, CN c K → CN c2 K) ∧ ∀ k, k = 4 ∨ k = 6 ∨ k = 10 ∨ k = 11 → c2 k = c k
theorem mc_refl (c : Nat → Nat → Int32) : MC c c := ⟨fun _ _ h => h, fun _ h => h, fun _ _ => rfl⟩
theorem mc_trans {c c2 c3 : Nat → Nat → Int32} (h : MC c c2) (h2 : MC c2 c3) : MC c c3 := ⟨fun h0 hh k => h.1 h0 hh (h2.1 h0 hh k), fun K k => h2.2.1 K (h.2.1 K k), fun k hk => by rw [h2.2.2 k hk, h.2.2 k hk]⟩
/-- what a hand that doesn't wait has, stays -/
def KL (c c2 : Nat → Nat → Int32) : Prop := ∀ h r, h < 8 → r < 12 → c 1 h = -1 → c2 0 (h * 12 + r) = c 0 (h * 12 + r)
theorem kl_refl (c : Nat → Nat → Int32) : KL c c := fun _ _ _ _ _ => rfl
theorem kl_trans {c c2 c3 : Nat → Nat → Int32} (h : KL c c2) (hm : MC c c2) (h2 : KL c2 c3) : KL c c3 := by
  intro h0 r hh hr e
  have e2 : c2 1 h0 = -1 := Classical.byContradiction fun k => hm.1 h0 hh k e
  rw [h2 h0 r hh hr e2, h h0 r hh hr e]
theorem rq_w {rr rm rp z : Nat → Int32} (H : RQ rr rm rp z) {h r : Nat} (hh : h < 8) (hr : r < 12) (e : rr h = nI r) : ∃ n p, z (125 + r) = nI n ∧ n ≤ 8 ∧ p < n ∧ rp h = nI p ∧ z (137 + 8 * r + p) = nI h ∧ rm h = z (233 + 8 * r + p) ∧ MO (rm h) := by
  rcases H.2 h hh with ⟨a, _⟩ | ⟨r2, n2, p2, h1, h2, h3, h4, h5, h6, h7⟩
  · rw [e] at a; exact absurd a (nI_nm1 (by omega))
  · rw [e] at h5
    obtain rfl := (nI_eq (by omega) (by omega)).mp h5
    obtain ⟨n, hn, en, kn⟩ := H.1 r hr
    rw [h2] at en
    obtain rfl := (nI_eq (by omega) (by omega)).mp en
    obtain ⟨h0, a1, a2, a3, a4, a5, a6⟩ := kn p2 h4
    rw [h7] at a2
    obtain rfl := (nI_eq (by omega) (by omega)).mp a2
    exact ⟨n2, p2, h2, h3, h4, h6, h7, a5, a6⟩
def grC (c : Nat → Nat → Int32) (h r : Nat) : Nat → Nat → Int32 := dqC (up2 (up2 c 0 (h * 12 + r) (c 2 h)) 8 h (c 8 h + 1)) h
theorem grant_S (M : PM) (g h r : Nat) (c : Nat → Nat → Int32) (hh : h < 8) (hr : r < 12) (hw : c 1 h = nI r) : w_X2_grant (setS M g c) g (nI h) = setS M g (grC c h r) := by
  unfold w_X2_grant
  have e8 : up2 c 0 (h * 12 + r) (c 2 h) 8 h = c 8 h := by rw [up2_o _ _ _ _ (by decide)]
  rw [at_S M g 1 h c (by omega) (show h < 8 from hh), hw, at_S M g 2 h c (by omega) (show h < 8 from hh), cell_in, put_S M g 0 (h * 12 + r) c _ (by omega) (show h * 12 + r < 96 by omega), raise_S M g 8 h _ (by omega) (show h < 8 from hh), e8]
  exact dequeue_S M g h _ hh (by rw [up2_o _ _ _ _ (by decide), up2_o _ _ _ _ (by decide), hw]; exact nI_nm1 (by omega))
theorem grC_1 (c : Nat → Nat → Int32) (h r i : Nat) : grC c h r 1 i = if i = h then -1 else c 1 i := by
  unfold grC
  rw [dqC_1, up2_o _ _ _ _ (by decide), up2_o _ _ _ _ (by decide)]
theorem grC_0 (c : Nat → Nat → Int32) (h r : Nat) : grC c h r 0 = up2 c 0 (h * 12 + r) (c 2 h) 0 := by
  unfold grC
  rw [dqC_o _ _ _ (by decide) (by decide) (by decide), up2_o _ _ _ _ (by decide)]
theorem grant_A {c : Nat → Nat → Int32} {z : Nat → Int32} (H : SA c z) {h r n p : Nat} (hh : h < 8) (hr : r < 12) (hn : z (125 + r) = nI n) (h8 : n ≤ 8) (hp : p < n) (e1 : c 1 h = nI r) (e2 : c 3 h = nI p) : SA (grC c h r) (grz z r p n h) := by
  obtain ⟨n2, p2, w1, w2, w3, w4, w5, w6, w7⟩ := rq_w H.2.1 hh hr e1
  rw [hn] at w1
  obtain rfl := (nI_eq (by omega) (by omega)).mp w1
  rw [e2] at w4
  obtain rfl := (nI_eq (by omega) (by omega)).mp w4
  have e8 : z (345 + h) = c 8 h := (H.2.2.1.1 8 h (by omega) (by omega) (show h < 8 from hh)).symm
  unfold grz grC
  rw [← w6, e8]
  have Z : ∀ i, 125 ≤ i → i < 329 → upd (upd z (5 + 12 * h + r) (c 2 h)) (345 + h) (c 8 h + 1) i = z i := by
    intro i a b
    rw [upd_o _ _ _ (by omega), upd_o _ _ _ (by omega)]
  have Q : RQ (up2 (up2 c 0 (h * 12 + r) (c 2 h)) 8 h (c 8 h + 1) 1) (up2 (up2 c 0 (h * 12 + r) (c 2 h)) 8 h (c 8 h + 1) 2) (up2 (up2 c 0 (h * 12 + r) (c 2 h)) 8 h (c 8 h + 1) 3) (upd (upd z (5 + 12 * h + r) (c 2 h)) (345 + h) (c 8 h + 1)) := by
    rw [up2_o _ _ _ _ (show ¬ 1 = 8 by decide), up2_o _ _ _ _ (show ¬ 1 = 0 by decide), up2_o _ _ _ _ (show ¬ 2 = 8 by decide), up2_o _ _ _ _ (show ¬ 2 = 0 by decide), up2_o _ _ _ _ (show ¬ 3 = 8 by decide), up2_o _ _ _ _ (show ¬ 3 = 0 by decide)]
    exact rq_z H.2.1 Z
  have E1 : up2 (up2 c 0 (h * 12 + r) (c 2 h)) 8 h (c 8 h + 1) 1 h = nI r := by rw [up2_o _ _ _ _ (by decide), up2_o _ _ _ _ (by decide)]; exact e1
  have E3 : up2 (up2 c 0 (h * 12 + r) (c 2 h)) 8 h (c 8 h + 1) 3 h = nI p := by rw [up2_o _ _ _ _ (by decide), up2_o _ _ _ _ (by decide)]; exact e2
  have N : upd (upd z (5 + 12 * h + r) (c 2 h)) (345 + h) (c 8 h + 1) (125 + r) = nI n := by rw [Z _ (by omega) (by omega)]; exact hn
  refine ⟨?_, rq_dq Q hh hr N h8 hp E1 E3, ?_, ?_⟩
  · rw [dqC_o _ _ _ (by decide) (by decide) (by decide), up2_o _ _ _ _ (show ¬ 0 = 8 by decide)]
    refine rk_z (rk_up H.1 hr (Or.inr w7)) (fun i a b => ?_)
    rw [uqz_lo _ hr (by omega) (by omega), upd_o _ _ _ (by omega)]
  · refine sc_z (z := upd (upd z (5 + 12 * h + r) (c 2 h)) (345 + h) (c 8 h + 1)) (sc_c (c := up2 (up2 c 0 (h * 12 + r) (c 2 h)) 8 h (c 8 h + 1)) ?_ (fun k a => dqC_o _ _ _ (by omega) (by omega) (by omega))) (fun i a => uqz_lo _ hr (by omega) (by omega))
    refine sc_raise (k := 8) (i := h) (sc_c (c := c) (sc_z H.2.2.1 (fun i a => upd_o _ _ _ (by omega))) (fun k a => up2_o _ _ _ _ (by omega))) (by omega) (by omega) (by omega) (show h < 8 from hh) _
  · refine hf_dq H.2.2.2 H.2.1 hr hn h8 hp e1 e2 Z (fun h' r' a1 a2 a3 => ?_)
    rw [upd_o _ _ _ (by omega), upd_o _ _ _ (by omega)]
theorem dq_M (c : Nat → Nat → Int32) (h : Nat) : MC c (dqC c h) := by
  refine ⟨fun h0 _ k => ?_, fun K H h0 hh0 => ?_, fun k hk => dqC_o _ _ _ (by omega) (by omega) (by omega)⟩
  · rw [dqC_1] at k
    by_cases q : h0 = h
    · rw [if_pos q] at k; exact absurd rfl k
    · rw [if_neg q] at k; exact k
  · obtain ⟨a, q, e1, e2, e3, e4⟩ := H h0 hh0
    refine ⟨a, q, by rw [dqC_o _ _ _ (by decide) (by decide) (by decide)]; exact e1, by rw [dqC_o _ _ _ (by decide) (by decide) (by decide)]; exact e2, ?_, e4⟩
    rw [dqC_1]
    split <;> split at e3 <;> first | omega | (split <;> first | omega | contradiction)
theorem gr_M (c : Nat → Nat → Int32) {h r : Nat} (hw : ¬ c 1 h = -1) : MC c (grC c h r) := by
  refine ⟨fun h0 _ k => ?_, fun K H h0 hh0 => ?_, fun k hk => by unfold grC; rw [dqC_o _ _ _ (by omega) (by omega) (by omega), up2_o _ _ _ _ (by omega), up2_o _ _ _ _ (by omega)]⟩
  · rw [grC_1] at k
    by_cases q : h0 = h
    · rw [if_pos q] at k; exact absurd rfl k
    · rw [if_neg q] at k; exact k
  · obtain ⟨a, q, e1, e2, e3, e4⟩ := H h0 hh0
    have f9 : grC c h r 9 h0 = c 9 h0 := by
      unfold grC
      rw [dqC_o _ _ _ (by decide) (by decide) (by decide), up2_o _ _ _ _ (by decide), up2_o _ _ _ _ (by decide)]
    have f8 : grC c h r 8 h0 = if h0 = h then c 8 h + 1 else c 8 h0 := by
      unfold grC
      rw [dqC_o _ _ _ (by decide) (by decide) (by decide)]
      unfold up2
      by_cases u : h0 = h
      · rw [if_pos ⟨rfl, u⟩, if_pos u]
      · rw [if_neg (fun v => u v.2), if_neg u, if_neg (by omega)]
    rw [f9, f8, grC_1]
    by_cases u : h0 = h
    · subst u
      rw [if_neg hw] at e3
      refine ⟨a, q + 1, e1, by rw [if_pos rfl, e2, nI_1], ?_, e4⟩
      rw [if_pos rfl, if_pos rfl]; omega
    · exact ⟨a, q, e1, by rw [if_neg u]; exact e2, by rw [if_neg u]; exact e3, e4⟩
theorem gr_K (c : Nat → Nat → Int32) {h r : Nat} (hr : r < 12) (hw : ¬ c 1 h = -1) : KL c (grC c h r) := by
  intro h0 r0 hh0 hr0 e
  rw [grC_0]
  unfold up2
  rw [if_neg]
  rintro ⟨_, k⟩
  obtain rfl : h0 = h := by omega
  exact hw e
/-- settle -/
theorem settle_A (M0 M : PM) (g : Nat) {r : Nat} (hr : r < 12) : ∀ (d n j : Nat) (c : Nat → Nat → Int32) (z : Nat → Int32) (x : Int32), n ≤ d → SA c z → z (125 + r) = nI n → n ≤ 8 → ∃ c2, lqv (lq (b_X2_settle_1 M0 g (nI r)) d j (x, setS M g c)) = ((stz r n z x).1, setS M g c2) ∧ SA c2 (stz r n z x).2 ∧ MC c c2 ∧ KL c c2 := by
  intro d
  induction d with
  | zero =>
    intro n j c z x hnd H hn h8
    obtain rfl : n = 0 := by omega
    rw [lq_0]
    exact ⟨c, rfl, H, mc_refl c, kl_refl c⟩
  | succ d ih =>
    intro n j c z x hnd H hn h8
    have hR := sa_rg M g H
    have eq : qn (zm z) r = n := by unfold qn; rw [zz_zm, hn]; exact nI_clamp (by omega)
    have hA := handAt_R hR (p := 0) hr (by omega)
    rw [eq, zz_zm] at hA
    cases n with
    | zero =>
      rw [if_neg (by omega)] at hA
      have hA : v_X2_handAt (setS M g c) g (nI r) 0 = -1 := hA
      have hb : b_X2_settle_1 M0 g (nI r) j (x, setS M g c) = .inr (x, setS M g c) := by
        unfold b_X2_settle_1
        dsimp only
        rw [if_pos hA]
      rw [lq_r hb]
      exact ⟨c, rfl, H, mc_refl c, kl_refl c⟩
    | succ n =>
      rw [if_pos (by omega)] at hA
      obtain ⟨n2, hn2, en2, kn⟩ := H.2.1.1 r hr
      rw [hn] at en2
      obtain rfl := (nI_eq (by omega) (by omega)).mp en2
      obtain ⟨h0, a1, a2, a3, a4, a5, a6⟩ := kn 0 (by omega)
      rw [a2] at hA
      have hA : v_X2_handAt (setS M g c) g (nI r) 0 = nI h0 := hA
      have a2 : z (137 + 8 * r) = nI h0 := a2
      have a5 : c 2 h0 = z (233 + 8 * r) := a5
      have hC := clash_R hR hr a1 a6
      rw [clz_eq, zz_zm] at hC
      unfold stz
      rw [a2, ← a5, nI_clamp (by omega)]
      by_cases cc : clz z r (c 2 h0) (nI h0) = 0
      · rw [if_pos cc]
        have hb : b_X2_settle_1 M0 g (nI r) j (x, setS M g c) = .inl (x + 1, setS M g (grC c h0 r)) := by
          unfold b_X2_settle_1
          dsimp only
          rw [hA, if_neg (nI_nm1 (by omega)), at_S M g 2 h0 c (by omega) (show h0 < 8 from a1), if_pos (hC.mpr cc), grant_S M g h0 r c a1 hr a3]
        rw [lq_l hb]
        have w : ¬ c 1 h0 = -1 := by rw [a3]; exact nI_nm1 (by omega)
        have H2 := grant_A H (p := 0) a1 hr hn h8 (by omega) a3 a4
        obtain ⟨c2, q1, q2, q3, q4⟩ := ih n (j + 1) (grC c h0 r) (grz z r 0 (n + 1) h0) (x + 1) (by omega) H2 (by unfold grz; exact uqz_n _ _ _ _ _) (by omega)
        exact ⟨c2, q1, q2, mc_trans (gr_M c w) q3, kl_trans (gr_K c hr w) (gr_M c w) q4⟩
      · rw [if_neg cc]
        have hb : b_X2_settle_1 M0 g (nI r) j (x, setS M g c) = .inr (x, setS M g c) := by
          unfold b_X2_settle_1
          dsimp only
          rw [hA, if_neg (nI_nm1 (by omega)), at_S M g 2 h0 c (by omega) (show h0 < 8 from a1), if_neg (fun k => cc (hC.mp k))]
        rw [lq_r hb]
        exact ⟨c, rfl, H, mc_refl c, kl_refl c⟩
/-- a row is settled, by class and model -/
theorem settle_R (M m : PM) (g : Nat) {r : Nat} (hr : r < 12) {c : Nat → Nat → Int32} (H : SA c (zz m)) : v_X2_settle (setS M g c) g (nI r) = v_X5_settle m r ∧ ∃ c2, w_X2_settle (setS M g c) g (nI r) = setS M g c2 ∧ SA c2 (zz (w_X5_settle m r)) ∧ MC c c2 ∧ KL c c2 := by
  obtain ⟨n, hn, en, _⟩ := H.2.1.1 r hr
  have eq : qn m r = n := by unfold qn; rw [en]; exact nI_clamp (by omega)
  obtain ⟨c2, q1, q2, q3, q4⟩ := settle_A (setS M g c) M g hr 8 n 0 c (zz m) 0 hn H en hn
  unfold v_X2_settle w_X2_settle v_X5_settle w_X5_settle
  rw [q1, eq, zz_setz]
  exact ⟨rfl, c2, rfl, q2, q3, q4⟩

