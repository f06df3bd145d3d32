/-! the parts read are requests; run -/
theorem inn_in {c lo hi : Int32} (h : ¬ inn c lo hi = 0) : ¬ c < lo ∧ ¬ hi < c := by
  unfold inn at h
  by_cases a : c < lo
  · rw [if_pos a] at h; exact absurd rfl h
  · rw [if_neg a] at h
    by_cases b : hi < c
    · rw [if_pos b] at h; exact absurd rfl h
    · exact ⟨a, b⟩
theorem nI_le2 {x : Int32} {a b : Nat} (ha : a < 2 ^ 31) (hb : b < 2 ^ 31) (h : ¬ x < nI a) (h2 : ¬ nI b < x) : ∃ j, a ≤ j ∧ j ≤ b ∧ x = nI j := by
  rw [Int32.lt_iff_toInt_lt, nI_toInt ha] at h
  rw [Int32.lt_iff_toInt_lt, nI_toInt hb] at h2
  refine ⟨x.toInt.toNat, by omega, by omega, ?_⟩
  apply Int32.toInt_inj.mp
  rw [nI_toInt (by omega)]
  omega
theorem nI_sub2 {j a : Nat} (h : a ≤ j) : nI j - nI a = nI (j - a) := by
  have e : nI j = nI (j - a) + nI a := by rw [nI_add]; congr 1; omega
  rw [e]
  exact Int32.add_sub_cancel _ _
/-- the parts behind are requests, the one under way as far as it goes -/
def rgP (f : Nat → Int32) (q : Nat) (n d : Int32) : Prop := (∀ p, p < q → PO f p) ∧ (d = 1 → (∃ h, h < 8 ∧ f (3 * q) = nI h) ∧ (n = -1 ∨ ∃ r, r < 12 ∧ n = nI r)) ∧ (d = 2 → PO f q)
theorem mdf_in {c : Int32} (h : ¬ mdf c = -1) : mdf c = 0 ∨ mdf c = 1 ∨ mdf c = 2 ∨ mdf c = 3 := by
  unfold mdf at h ⊢
  (repeat' split) <;> first | (exact Or.inl rfl) | (exact Or.inr (Or.inl rfl)) | (exact Or.inr (Or.inr (Or.inl rfl))) | (exact Or.inr (Or.inr (Or.inr rfl))) | skip
  rename_i a b c1 d
  rw [if_pos a, if_pos b, if_pos c1, if_pos d] at h
  exact absurd rfl h
theorem po_cong {f f2 : Nat → Int32} {p : Nat} (h : PO f p) (e : ∀ i, i < 3 * p + 3 → f2 i = f i) : PO f2 p := by
  obtain ⟨a, b, h1, h2, h3, h4, h5⟩ := h
  exact ⟨a, b, h1, h2, by rw [e _ (by omega)]; exact h3, by rw [e _ (by omega)]; exact h4, by rw [e _ (by omega)]; exact h5⟩
theorem dgn_in {n a : Int32} (h : ¬ dgv n a = 0) : ∃ r, r < 12 ∧ dgn n a = nI r := by
  have k : ¬ inn (dgn n a) 0 11 = 0 := by
    intro e
    apply h
    unfold dgv
    rw [e]
    (repeat' split) <;> first | rfl | (rename_i q; exact absurd rfl q)
  obtain ⟨k1, k2⟩ := inn_in k
  obtain ⟨j, _, hj, e⟩ := nI_le2 (a := 0) (b := 11) (by omega) (by omega) k1 k2
  exact ⟨j, by omega, e⟩
theorem rgP_s {f : Nat → Int32} {k q : Nat} {n d c : Int32} (hI : rgI k q n d) (h : rgP f q n d) (hv : ¬ tkv n d c = 0) : rgP (tkf f q n d c) (tkQ q d) (tkn n d c) (tkd n d c) := by
  unfold tkv at hv
  obtain ⟨h1, h2, h3⟩ := h
  rcases hI with ⟨rfl, _⟩ | ⟨rfl, rfl, _⟩ | ⟨rfl, hn, _⟩ | ⟨rfl, _⟩
  · have hv : ¬ inn c 97 104 = 0 := hv
    refine ⟨fun p hp => po_cong (h1 p hp) (fun i hi => ?_), fun _ => ⟨?_, Or.inl rfl⟩, fun e => absurd (show (1 : Int32) = 2 from e) (by decide)⟩
    · show upd f (3 * q) (c - 97) i = f i
      have hp : p < q := hp
      unfold upd
      rw [if_neg (by omega)]
    · obtain ⟨k1, k2⟩ := inn_in hv
      obtain ⟨j, j1, j2, rfl⟩ := nI_le2 (a := 97) (b := 104) (by omega) (by omega) k1 k2
      refine ⟨j - 97, by omega, ?_⟩
      show upd f (3 * q) (nI j - 97) (3 * q) = _
      unfold upd
      rw [if_pos rfl]
      exact nI_sub2 j1
  · have hv : ¬ dgv (-1) (c - 48) = 0 := hv
    refine ⟨h1, fun _ => ⟨(h2 rfl).1, Or.inr ?_⟩, fun e => absurd (show (1 : Int32) = 2 from e) (by decide)⟩
    have en : tkn (-1) 1 c = dgn (-1) (c - 48) := by
      show (if dgv (-1) (c - 48) = 0 then (-1 : Int32) else dgn (-1) (c - 48)) = _
      rw [if_neg hv]
    rw [en]
    exact dgn_in hv
  · have hv : ¬ (if n = (-1 : Int32) then dgv n (c - 48) else if mdf c = (-1 : Int32) then dgv n (c - 48) else 1) = 0 := hv
    rw [if_neg hn] at hv
    have en : tkn n 1 c = if mdf c = (-1 : Int32) then (if dgv n (c - 48) = 0 then n else dgn n (c - 48)) else n := by
      show (if n = (-1 : Int32) then _ else _) = _
      rw [if_neg hn]
    have ed : tkd n 1 c = if mdf c = (-1 : Int32) then 1 else 2 := by
      show (if n = (-1 : Int32) then _ else _) = _
      rw [if_neg hn]
    have ef : tkf f q n 1 c = if mdf c = (-1 : Int32) then f else upd (upd f (3 * q + 1) n) (3 * q + 2) (mdf c) := by
      show (if n = (-1 : Int32) then _ else _) = _
      rw [if_neg hn]
    rw [en, ed, ef]
    by_cases c4 : mdf c = (-1 : Int32)
    · rw [if_pos c4] at hv
      rw [if_pos c4, if_pos c4, if_pos c4, if_neg hv]
      exact ⟨h1, fun _ => ⟨(h2 rfl).1, Or.inr (dgn_in hv)⟩, fun e => absurd e (by decide)⟩
    · rw [if_neg c4, if_neg c4, if_neg c4]
      refine ⟨fun p hp => po_cong (h1 p hp) (fun i hi => ?_), fun e => absurd e (by decide), fun _ => ?_⟩
      · have hp : p < q := hp
        unfold upd
        rw [if_neg (by omega), if_neg (by omega)]
      · obtain ⟨⟨a, ha, ea⟩, hb⟩ := h2 rfl
        obtain ⟨b, hb, eb⟩ : ∃ r, r < 12 ∧ n = nI r := by
          rcases hb with e | e
          · exact absurd e hn
          · exact e
        refine ⟨a, b, ha, hb, ?_, ?_, ?_⟩
        · show upd (upd f (3 * q + 1) n) (3 * q + 2) (mdf c) (3 * q) = _
          unfold upd
          rw [if_neg (by omega), if_neg (by omega)]
          exact ea
        · show upd (upd f (3 * q + 1) n) (3 * q + 2) (mdf c) (3 * q + 1) = _
          unfold upd
          rw [if_neg (by omega), if_pos rfl]
          exact eb
        · show upd (upd f (3 * q + 1) n) (3 * q + 2) (mdf c) (3 * q + 2) = 0 ∨ _
          have e : ∀ g : Nat → Int32, upd g (3 * q + 2) (mdf c) (3 * q + 2) = mdf c := fun g => by unfold upd; rw [if_pos rfl]
          show upd _ (3 * q + 2) (mdf c) (3 * q + 2) = 0 ∨ upd _ (3 * q + 2) (mdf c) (3 * q + 2) = 1 ∨ upd _ (3 * q + 2) (mdf c) (3 * q + 2) = 2 ∨ upd _ (3 * q + 2) (mdf c) (3 * q + 2) = 3
          rw [e]
          exact mdf_in c4
  · refine ⟨fun p hp => ?_, fun e => absurd (show (0 : Int32) = 1 from e) (by decide), fun e => absurd (show (0 : Int32) = 2 from e) (by decide)⟩
    have hp : p < q + 1 := hp
    show PO f p
    by_cases hc : p = q
    · subst hc; exact h3 rfl
    · exact h1 p (by omega)
/-- where the reading ends well, the parts are requests -/
theorem rgt_ok (tx : Nat → Int32) : ∀ (e k : Nat) (f : Nat → Int32) (q : Nat) (n d : Int32), rgI k q n d → rgP f q n d → (rgt tx e k f q n d).1 = k + e → rgI (k + e) (rgt tx e k f q n d).2.2.1 (rgt tx e k f q n d).2.2.2.1 (rgt tx e k f q n d).2.2.2.2 ∧ rgP (rgt tx e k f q n d).2.1 (rgt tx e k f q n d).2.2.1 (rgt tx e k f q n d).2.2.2.1 (rgt tx e k f q n d).2.2.2.2 := by
  intro e
  induction e with
  | zero => intro k f q n d hI hP _; exact ⟨hI, hP⟩
  | succ e ih =>
    intro k f q n d hI hP he
    unfold rgt at he ⊢
    by_cases c : tkv n d (tx k) = 0
    · rw [if_pos c] at he
      have he : k = k + (e + 1) := he
      omega
    · rw [if_neg c] at he ⊢
      have k2 := ih (k + 1) _ _ _ _ (rgI_s hI c) (rgP_s hI hP c) (by rw [he]; omega)
      rw [show k + 1 + e = k + (e + 1) by omega] at k2
      exact k2
/-- d requests at most, from the k-th on -/
def rnz : Nat → Nat → PM → Nat × PM
  | 0, k, m => (k, m)
  | d + 1, k, m => if v_X5_carries m k = 0 then (k, w_X5_carries m k) else rnz d (k + 1) (w_X5_carries m k)
def rgK (m : PM) (len : Nat) : Nat := (rgtM m len).1
def rgQ (m : PM) (len : Nat) : Nat := (rgtM m len).2.2.1
def rgD (m : PM) (len : Nat) : Int32 := (rgtM m len).2.2.2.2
def isW (m : PM) (len : Nat) : Prop := rgK m len = len ∧ rgD m len = 2
/-- behind the save -/
def runM (m : PM) (len s : Nat) : PM := wI (w_X5_save (wI (w_X5_rightUpTo m len) 7 0 0 5 0) s) 7 0 0 3 0
theorem runM_f (m : PM) (len s : Nat) : pt (runM m len s) = (rgtM m len).2.1 := by
  funext i
  have e1 : pt (runM m len s) i = (w_X5_rightUpTo m len).1 8 3 0 i := by
    unfold pt runM w_X5_save sets wI
    dsimp only
    rw [if_neg (by omega), if_neg (by omega), if_neg (by omega), if_neg (by omega)]
  rw [e1]
  unfold w_X5_rightUpTo setq
  rw [setp_f]
theorem runM_q (m : PM) (len s : Nat) : (runM m len s).1 7 0 0 7 = nI (rgQ m len) := by
  have e1 : (runM m len s).1 7 0 0 7 = (w_X5_rightUpTo m len).1 7 0 0 7 := by
    unfold runM w_X5_save sets wI
    dsimp only
    rw [if_neg (by omega), if_neg (by omega), if_neg (by omega), if_neg (by omega)]
  rw [e1]
  unfold w_X5_rightUpTo setq rgQ
  rw [setp_q]
theorem zz_right (m : PM) (len : Nat) : zz (w_X5_rightUpTo m len) = zz m := by
  funext i
  exact setp_o _ _ _ _ _ _ _ _ _ (by omega) (by omega)
theorem zz_save (m : PM) (s : Nat) : zz (w_X5_save m s) = zz m := by
  funext i
  exact sets_z _ _ _ _
theorem zz_runM (m : PM) (len s : Nat) : zz (runM m len s) = zz m := by
  unfold runM
  rw [zz_w7, zz_save, zz_w7, zz_right]
theorem rnz_oz : ∀ (d k : Nat) (m : PM), OZ m (rnz d k m).2 := by
  intro d
  induction d with
  | zero => intro k m; exact oz_refl m
  | succ d ih =>
    intro k m
    unfold rnz
    split
    · exact oz_carries m k
    · exact oz_trans (oz_carries m k) (ih _ _)
def v_X5_run (m : PM) (len s : Nat) : Int32 := if ¬ nI (rgK m len) = nI len then 0 else if ¬ rgD m len = 2 then 0 else nI (rnz (rgQ m len + 1) 0 (runM m len s)).1
def w_X5_run (m : PM) (len s : Nat) : PM := if ¬ nI (rgK m len) = nI len then wI (w_X5_rightUpTo m len) 7 0 0 5 1 else if ¬ rgD m len = 2 then wI (w_X5_rightUpTo m len) 7 0 0 5 1 else (rnz (rgQ m len + 1) 0 (runM m len s)).2
theorem rgt_le (tx : Nat → Int32) : ∀ (e k : Nat) (f : Nat → Int32) (q : Nat) (n d : Int32), (rgt tx e k f q n d).1 ≤ k + e := by
  intro e
  induction e with
  | zero => intro k f q n d; exact Nat.le_refl _
  | succ e ih =>
    intro k f q n d
    unfold rgt
    split
    · exact Nat.le_add_right _ _
    · have := ih (k + 1) (tkf f q n d (tx k)) (tkQ q d) (tkn n d (tx k)) (tkd n d (tx k))
      omega
theorem r_X5_run {J : (Nat → Int32) → Prop} (hJ : JJ J) (m : PM) (len s : Nat) (h0 : J (zz m)) (hl : m.1 7 0 0 3 = nI len) (h60 : len ≤ 60) (hs6 : s ≤ 6) (hs1 : sts m = nI s) : Rn MX5_run [vR 7 0 0] m (some (vI (v_X5_run m len s))) (w_X5_run m len s) := by
  refine rn_of [some (vR 7 0 0), none, none] rfl ?_
  refine an_b 1 (pc2 := 1) (L2 := [some (vR 7 0 0), none, none]) (st2 := [vR 7 0 0]) (m1 := m) rfl ?_
  refine an_call (r_X5_rightUpTo m len hl h60) rfl rfl rfl rfl ?_
  show An MX5_run 4 [some (vR 7 0 0), none, none] [vI (nI (rgK m len))] (w_X5_rightUpTo m len) _ _
  have el : (w_X5_rightUpTo m len).1 7 0 0 3 = nI len := by
    rw [← hl]
    exact setp_o _ _ _ _ _ _ _ _ _ (by omega) (by omega)
  have ed : (w_X5_rightUpTo m len).1 7 0 0 9 = rgD m len := setp_d _ _ _ _ _
  have eS : sts (w_X5_rightUpTo m len) = nI s := by
    rw [← hs1]
    exact setp_o _ _ _ _ _ _ _ _ _ (by omega) (by omega)
  have kle : rgK m len ≤ 0 + len := rgt_le _ _ _ _ _ _ _
  refine an_b 2 (pc2 := 8) (L2 := [some (vR 7 0 0), none, none]) (st2 := [vI ((w_X5_rightUpTo m len).1 7 0 0 3), vI (nI (rgK m len))]) (m1 := w_X5_rightUpTo m len) rfl ?_
  rw [el]
  have no : An MX5_run 23 [some (vR 7 0 0), none, none] [] (w_X5_rightUpTo m len) (.inl (some (vI 0))) (wI (w_X5_rightUpTo m len) 7 0 0 5 1) := by
    refine an_b 5 (pc2 := if (0 : Int32) = 0 then 34 else 30) (L2 := [some (vR 7 0 0), some (vI 0), none]) (st2 := [vR 7 0 0]) (m1 := w_X5_rightUpTo m len) rfl ?_
    refine an_t rfl ?_
    refine an_b 4 (pc2 := 42) (L2 := [some (vR 7 0 0), some (vI 0), none]) (st2 := [vI ((wI (w_X5_rightUpTo m len) 7 0 0 5 1).1 7 0 0 5)]) (m1 := wI (w_X5_rightUpTo m len) 7 0 0 5 1) rfl ?_
    rw [w_at]
    refine an_b 1 (pc2 := if (1 : Int32) ≤ 0 then 47 else 45) (L2 := [some (vR 7 0 0), some (vI 0), none]) (st2 := []) (m1 := wI (w_X5_rightUpTo m len) 7 0 0 5 1) rfl ?_
    refine an_f (by decide) ?_
    refine an_b 1 (pc2 := 46) (L2 := [some (vR 7 0 0), some (vI 0), none]) (st2 := [vI 0]) (m1 := wI (w_X5_rightUpTo m len) 7 0 0 5 1) rfl ?_
    exact an_ret rfl rfl rfl rfl rfl
  refine an_b 1 (pc2 := if ¬ nI (rgK m len) = nI len then 23 else 11) (L2 := [some (vR 7 0 0), none, none]) (st2 := []) (m1 := w_X5_rightUpTo m len) rfl ?_
  unfold v_X5_run w_X5_run
  by_cases c1 : nI (rgK m len) = nI len
  · refine an_f (fun k => k c1) ?_
    rw [if_neg (show ¬ ¬ nI (rgK m len) = nI len from fun k => k c1), if_neg (show ¬ ¬ nI (rgK m len) = nI len from fun k => k c1)]
    refine an_b 2 (pc2 := 15) (L2 := [some (vR 7 0 0), none, none]) (st2 := [vI ((w_X5_rightUpTo m len).1 7 0 0 9)]) (m1 := w_X5_rightUpTo m len) rfl ?_
    rw [ed]
    refine an_b 2 (pc2 := if ¬ rgD m len = (2 : Int32) then 23 else 19) (L2 := [some (vR 7 0 0), none, none]) (st2 := []) (m1 := w_X5_rightUpTo m len) rfl ?_
    by_cases c2 : rgD m len = (2 : Int32)
    · refine an_f (fun k => k c2) ?_
      rw [if_neg (show ¬ ¬ rgD m len = (2 : Int32) from fun k => k c2), if_neg (show ¬ ¬ rgD m len = (2 : Int32) from fun k => k c2)]
      have ek : rgK m len = 0 + len := by
        have := (nI_eq (by omega) (by omega)).mp c1
        omega
      have ok := rgt_ok (tex m) len 0 (fun i => m.1 8 3 0 i) 0 (m.1 7 0 0 8) 0 (Or.inl ⟨rfl, Nat.le_refl _⟩) ⟨fun p hp => absurd hp (by omega), fun e => absurd e (by decide), fun e => absurd e (by decide)⟩ ek
      have okI : rgI (0 + len) (rgQ m len) _ (rgD m len) := ok.1
      have okP : rgP (rgtM m len).2.1 (rgQ m len) _ (rgD m len) := ok.2
      have hq15 := rgI_q okI
      have hPO : ∀ p, p ≤ rgQ m len → PO (rgtM m len).2.1 p := by
        intro p hp
        by_cases hc : p = rgQ m len
        · rw [hc]; exact okP.2.2 c2
        · exact okP.1 p (by omega)
      refine an_b 6 (pc2 := if (1 : Int32) = 0 then 34 else 30) (L2 := [some (vR 7 0 0), some (vI 1), none]) (st2 := [vR 7 0 0]) (m1 := w_X5_rightUpTo m len) rfl ?_
      refine an_f (by decide) ?_
      refine an_b 5 (pc2 := 42) (L2 := [some (vR 7 0 0), some (vI 1), none]) (st2 := [vI ((wI (w_X5_rightUpTo m len) 7 0 0 5 0).1 7 0 0 5)]) (m1 := wI (w_X5_rightUpTo m len) 7 0 0 5 0) rfl ?_
      rw [w_at]
      refine an_b 1 (pc2 := if (0 : Int32) ≤ 0 then 47 else 45) (L2 := [some (vR 7 0 0), some (vI 1), none]) (st2 := []) (m1 := wI (w_X5_rightUpTo m len) 7 0 0 5 0) rfl ?_
      refine an_t (by decide) ?_
      refine an_b 1 (pc2 := 48) (L2 := [some (vR 7 0 0), some (vI 1), none]) (st2 := [vR 7 0 0]) (m1 := wI (w_X5_rightUpTo m len) 7 0 0 5 0) rfl ?_
      refine an_call (r_X5_save (wI (w_X5_rightUpTo m len) 7 0 0 5 0) s hs6 ?_) rfl rfl rfl rfl ?_
      · rw [← eS]
        unfold sts wI
        dsimp only
        rw [if_neg (by decide)]
      refine an_b 5 (pc2 := 58) (L2 := [some (vR 7 0 0), some (vI 1), some (vI (nI 0))]) (st2 := []) (m1 := runM m len s) rfl ?_
      have j0 : J (zz (runM m len s)) := by rw [zz_runM]; exact h0
      have f0 := runM_f m len s
      have q0 := runM_q m len s
      generalize runM m len s = m0 at j0 f0 q0 ⊢
      generalize rgQ m len = q at q0 hq15 hPO ⊢
      suffices K : ∀ d k m1, k + d = q + 1 → OZ m0 m1 → J (zz m1) → An MX5_run 58 [some (vR 7 0 0), some (vI 1), some (vI (nI k))] [] m1 (.inl (some (vI (nI (rnz d k m1).1)))) (rnz d k m1).2 from K (q + 1) 0 m0 (Nat.zero_add _) (oz_refl _) j0
      have fin : ∀ k m1, An MX5_run 80 [some (vR 7 0 0), some (vI 1), some (vI (nI k))] [] m1 (.inl (some (vI (nI k)))) m1 := by
        intro k m1
        refine an_b 1 (pc2 := 81) (L2 := [some (vR 7 0 0), some (vI 1), some (vI (nI k))]) (st2 := [vI (nI k)]) (m1 := m1) rfl ?_
        exact an_ret rfl rfl rfl rfl rfl
      intro d
      induction d with
      | zero =>
        intro k m1 hk ho hj
        refine an_b 3 (pc2 := 63) (L2 := [some (vR 7 0 0), some (vI 1), some (vI (nI k))]) (st2 := [vI (m1.1 7 0 0 7), vI (nI k)]) (m1 := m1) rfl ?_
        rw [ho.1 7 0 0 7 (by decide), q0]
        refine an_b 1 (pc2 := if nI q < nI k then 80 else 66) (L2 := [some (vR 7 0 0), some (vI 1), some (vI (nI k))]) (st2 := []) (m1 := m1) rfl ?_
        exact an_t (nI_lt (by omega) (by omega)) (fin _ _)
      | succ d ih =>
        intro k m1 hk ho hj
        have pk : PO (pt m1) k := by
          refine po_cong (hPO k (by omega)) (fun i _ => ?_)
          rw [← f0]
          exact ho.1 8 3 0 i (by omega)
        refine an_b 3 (pc2 := 63) (L2 := [some (vR 7 0 0), some (vI 1), some (vI (nI k))]) (st2 := [vI (m1.1 7 0 0 7), vI (nI k)]) (m1 := m1) rfl ?_
        rw [ho.1 7 0 0 7 (by decide), q0]
        refine an_b 1 (pc2 := if nI q < nI k then 80 else 66) (L2 := [some (vR 7 0 0), some (vI 1), some (vI (nI k))]) (st2 := []) (m1 := m1) rfl ?_
        refine an_f (nI_nlt (by omega) (by omega)) ?_
        refine an_b 2 (pc2 := 68) (L2 := [some (vR 7 0 0), some (vI 1), some (vI (nI k))]) (st2 := [vI (nI k), vR 7 0 0]) (m1 := m1) rfl ?_
        refine an_call (r_X5_carries hJ m1 k (by omega) hj pk) rfl rfl rfl rfl ?_
        refine an_b 1 (pc2 := if v_X5_carries m1 k = 0 then 80 else 74) (L2 := [some (vR 7 0 0), some (vI 1), some (vI (nI k))]) (st2 := []) (m1 := w_X5_carries m1 k) rfl ?_
        unfold rnz
        by_cases c : v_X5_carries m1 k = 0
        · refine an_t c ?_
          rw [if_pos c]
          exact fin _ _
        · refine an_f c ?_
          rw [if_neg c]
          refine an_b 2 (pc2 := 58) (L2 := [some (vR 7 0 0), some (vI 1), some (vI (nI k + 1))]) (st2 := []) (m1 := w_X5_carries m1 k) rfl ?_
          rw [nI_1]
          exact ih (k + 1) _ (by omega) (oz_trans ho (oz_carries m1 k)) (j_carries hJ hj pk)
    · refine an_t c2 ?_
      rw [if_pos c2, if_pos c2]
      exact no
  · refine an_t c1 ?_
    rw [if_pos c1, if_pos c1]
    exact no
