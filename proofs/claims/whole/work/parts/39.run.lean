/-! what leaves all but the row z alone; carries, run -/
def OZ (m m2 : PM) : Prop := (∀ t k g i, ¬ (t = 8 ∧ k = 0 ∧ g = 0) → m2.1 t k g i = m.1 t k g i) ∧ m2.2 = m.2
theorem oz_refl (m : PM) : OZ m m := ⟨fun _ _ _ _ _ => rfl, rfl⟩
theorem oz_trans {m m2 m3 : PM} (h : OZ m m2) (h2 : OZ m2 m3) : OZ m m3 := ⟨fun t k g i c => by rw [h2.1 t k g i c, h.1 t k g i c], by rw [h2.2, h.2]⟩
theorem oz_setz (m : PM) (f : Nat → Int32) : OZ m (setz m f) := ⟨fun t k g i c => by unfold setz; dsimp only; rw [if_neg c], rfl⟩
theorem oz_wI (m : PM) (i : Nat) (v : Int32) : OZ m (wI m 8 0 0 i v) := by rw [wI_setz]; exact oz_setz _ _
theorem oz_setLock (m : PM) (h r : Nat) (v : Int32) : OZ m (w_X5_setLock m h r v) := oz_wI _ _ _
theorem oz_settle (m : PM) (r : Nat) : OZ m (w_X5_settle m r) := oz_setz _ _
theorem oz_unq (m : PM) (r p : Nat) : OZ m (w_X5_unqueue m r p) := oz_setz _ _
theorem oz_enq (m : PM) (r h : Nat) (md : Int32) : OZ m (w_X5_enqueue m r h md) := oz_setz _ _
theorem oz_lose (m : PM) (h : Nat) : OZ m (w_X5_lose m h) := by
  have a : OZ m (lose_1 m h).2 := by
    refine lp_inv (b_X5_lose_1 m h) 12 (fun _ s => OZ m s.2) (fun j s hj hs => oz_trans hs ?_) 12 0 (0, m) rfl (oz_refl m)
    unfold b_X5_lose_1
    dsimp only
    split
    · exact oz_setLock _ _ _ _
    · exact oz_trans (oz_setLock _ _ _ _) (oz_unq _ _ _)
  have b : OZ m (lose_2 m h) := oz_trans a (oz_wI _ _ _)
  refine lp_inv (b_X5_lose_2 (lose_1 m h).1) 12 (fun _ s => OZ m s) (fun j s hj hs => oz_trans hs ?_) 12 0 _ rfl b
  unfold b_X5_lose_2
  split
  · exact oz_refl _
  · exact oz_settle _ _
theorem oz_ring (h : Nat) : ∀ (d : Nat) (m : PM), OZ m (ring h d m) := by
  intro d
  induction d with
  | zero => intro m; exact oz_refl m
  | succ d ih =>
    intro m
    unfold ring
    split
    · exact oz_refl m
    · exact oz_trans (oz_lose _ _) (ih _)
theorem oz_asks (m : PM) (h r : Nat) (md : Int32) : OZ m (w_X5_asks m h r md) := by
  unfold w_X5_asks
  split
  · exact oz_trans (oz_trans (oz_trans (oz_wI _ _ _) (oz_enq _ _ _ _)) (oz_settle _ _)) (oz_ring _ _ _)
  · exact oz_trans (oz_wI _ _ _) (oz_wI _ _ _)
theorem oz_releases (m : PM) (h r : Nat) : OZ m (w_X5_releases m h r) := oz_trans (oz_setLock _ _ _ _) (oz_settle _ _)
theorem oz_burn (m : PM) (r : Nat) : OZ m (w_X5_burn m r) := by
  have a : OZ m (lp (b_X5_burn_1 m r) 8 0 ((0 : Int32), m)).2 := by
    refine lp_inv (b_X5_burn_1 m r) 8 (fun _ s => OZ m s.2) (fun j s hj hs => oz_trans hs ?_) 8 0 (0, m) rfl (oz_refl m)
    unfold b_X5_burn_1
    dsimp only
    split
    · exact oz_refl _
    · exact oz_trans (oz_setLock _ _ _ _) (oz_wI _ _ _)
  exact oz_trans a (oz_wI _ _ _)
theorem oz_tick (m : PM) : OZ m (w_X5_tick m) := by
  have a : OZ m (tick_1 m) := by
    refine lp_inv b_X5_tick_1 12 (fun _ s => OZ m s) (fun j s hj hs => oz_trans hs ?_) 12 0 _ rfl (oz_wI _ _ _)
    exact oz_wI _ _ _
  refine lp_inv b_X5_tick_2 12 (fun _ s => OZ m s.2) (fun j s hj hs => oz_trans hs ?_) 12 0 (0, tick_1 m) rfl a
  unfold b_X5_tick_2
  dsimp only
  have w : OZ s.2 (tickW s.2 j) := by
    unfold tickW
    split
    · exact oz_refl _
    · exact oz_burn _ _
  split
  · exact w
  · exact oz_trans w (oz_settle _ _)
/-- what is kept true of the row z -/
def JJ (J : (Nat → Int32) → Prop) : Prop := (∀ z, J z → QA z) ∧ (∀ z z2, J z → (∀ i, i < 361 → z2 i = z i) → J z2) ∧ (∀ (m : PM) (h r : Nat) (md : Int32), J (zz m) → h < 8 → r < 12 → (md = 1 ∨ md = 2 ∨ md = 3) → v_X5_waits m (nI h) = 0 → qn m r < 8 ∧ (v_X5_lockOf (askA m h) h r < md → v_X5_isInRing (askR m h r md) (nI h) = 0) ∧ J (zz (w_X5_asks m h r md))) ∧ (∀ (m : PM) (h r : Nat), J (zz m) → h < 8 → r < 12 → ¬ v_X5_canRelease m h r = 0 → J (zz (w_X5_releases m h r)))
def pt (m : PM) (i : Nat) : Int32 := m.1 8 3 0 i
/-- the part p is a request -/
def PO (f : Nat → Int32) (p : Nat) : Prop := ∃ h r, h < 8 ∧ r < 12 ∧ f (3 * p) = nI h ∧ f (3 * p + 1) = nI r ∧ (f (3 * p + 2) = 0 ∨ f (3 * p + 2) = 1 ∨ f (3 * p + 2) = 2 ∨ f (3 * p + 2) = 3)
def pH (m : PM) (p : Nat) : Nat := (pt m (3 * p)).toNatClampNeg
def pR (m : PM) (p : Nat) : Nat := (pt m (3 * p + 1)).toNatClampNeg
def v_X5_carries (m : PM) (p : Nat) : Int32 := if pt m (3 * p + 2) = 0 then v_X5_canRelease m (pH m p) (pR m p) else if v_X5_waits m (pt m (3 * p)) = 0 then 1 else 0
def w_X5_carries (m : PM) (p : Nat) : PM := if v_X5_carries m p = 0 then m else if pt m (3 * p + 2) = 0 then w_X5_releases m (pH m p) (pR m p) else w_X5_asks m (pH m p) (pR m p) (pt m (3 * p + 2))
theorem oz_carries (m : PM) (p : Nat) : OZ m (w_X5_carries m p) := by
  unfold w_X5_carries
  (repeat' split) <;> first | exact oz_refl _ | exact oz_releases _ _ _ | exact oz_asks _ _ _ _
theorem z_X5_carries (m : PM) (p : Nat) : v_X5_carries m p = 0 ∨ v_X5_carries m p = 1 := by
  unfold v_X5_carries
  (repeat' split) <;> first | exact Or.inl rfl | exact Or.inr rfl | exact z_X5_canRelease _ _ _
theorem j_carries {J : (Nat → Int32) → Prop} (hJ : JJ J) {m : PM} {p : Nat} (h0 : J (zz m)) (hp : PO (pt m) p) : J (zz (w_X5_carries m p)) := by
  obtain ⟨h, r, hh, hr, e1, e2, e3⟩ := hp
  have eH : pH m p = h := by unfold pH; rw [e1]; exact nI_clamp (by omega)
  have eR : pR m p = r := by unfold pR; rw [e2]; exact nI_clamp (by omega)
  unfold w_X5_carries
  by_cases c : v_X5_carries m p = 0
  · rw [if_pos c]; exact h0
  · rw [if_neg c, eH, eR]
    unfold v_X5_carries at c
    rw [eH, eR, e1] at c
    by_cases c1 : pt m (3 * p + 2) = 0
    · rw [if_pos c1] at c ⊢
      exact hJ.2.2.2 m h r h0 hh hr c
    · rw [if_neg c1] at c ⊢
      by_cases c2 : v_X5_waits m (nI h) = 0
      · exact (hJ.2.2.1 m h r _ h0 hh hr (by rcases e3 with e | e; exact absurd e c1; exact e) c2).2.2
      · rw [if_neg c2] at c; exact absurd rfl c
theorem r_X5_carries {J : (Nat → Int32) → Prop} (hJ : JJ J) (m : PM) (p : Nat) (hp20 : p < 20) (h0 : J (zz m)) (hp : PO (pt m) p) : Rn MX5_carries [vR 7 0 0, vI (nI p)] m (some (vI (v_X5_carries m p))) (w_X5_carries m p) := by
  obtain ⟨h, r, hh, hr, e1, e2, e3⟩ := hp
  have eH : pH m p = h := by unfold pH; rw [e1]; exact nI_clamp (by omega)
  have eR : pR m p = r := by unfold pR; rw [e2]; exact nI_clamp (by omega)
  have hq := hJ.1 _ h0
  refine rn_of [some (vR 7 0 0), some (vI (nI p)), none, none, none, none, none] rfl ?_
  refine an_b 5 (pc2 := 7) (L2 := [some (vR 7 0 0), some (vI (nI p)), none, none, none, none, none]) (st2 := [vI ((3 : Int32) * nI p), vR 8 3 0]) (m1 := m) rfl ?_
  refine an_ald (3 * p) 60 rfl rfl (by simp only [ix_lit, pk_mul]) (by omega) (by omega) ?_
  rw [show m.1 8 3 0 (3 * p) = nI h from e1]
  refine an_b 8 (pc2 := 18) (L2 := [some (vR 7 0 0), some (vI (nI p)), some (vI (nI h)), none, none, none, none]) (st2 := [vI ((3 : Int32) * nI p + 1), vR 8 3 0]) (m1 := m) rfl ?_
  refine an_ald (3 * p + 1) 60 rfl rfl (by simp only [ix_lit, pk_mul, nI_add]) (by omega) (by omega) ?_
  rw [show m.1 8 3 0 (3 * p + 1) = nI r from e2]
  refine an_b 8 (pc2 := 29) (L2 := [some (vR 7 0 0), some (vI (nI p)), some (vI (nI h)), some (vI (nI r)), none, none, none]) (st2 := [vI ((3 : Int32) * nI p + 2), vR 8 3 0]) (m1 := m) rfl ?_
  refine an_ald (3 * p + 2) 60 rfl rfl (by simp only [ix_lit, pk_mul, nI_add]) (by omega) (by omega) ?_
  have ev : v_X5_carries m p = if pt m (3 * p + 2) = 0 then v_X5_canRelease m h r else if v_X5_waits m (nI h) = 0 then 1 else 0 := by
    unfold v_X5_carries; rw [eH, eR, e1]
  have ew : w_X5_carries m p = if v_X5_carries m p = 0 then m else if pt m (3 * p + 2) = 0 then w_X5_releases m h r else w_X5_asks m h r (pt m (3 * p + 2)) := by
    unfold w_X5_carries; rw [eH, eR]
  have zc := z_X5_carries m p
  rw [ew]
  show An MX5_carries 30 [some (vR 7 0 0), some (vI (nI p)), some (vI (nI h)), some (vI (nI r)), none, none, none] [vI (pt m (3 * p + 2))] m _ _
  generalize pt m (3 * p + 2) = md at ev e3 ⊢
  -- what is told
  have T : An MX5_carries 59 [some (vR 7 0 0), some (vI (nI p)), some (vI (nI h)), some (vI (nI r)), some (vI md), none, none] [vI (v_X5_carries m p)] m (.inl (some (vI (v_X5_carries m p)))) (if v_X5_carries m p = 0 then m else if md = 0 then w_X5_releases m h r else w_X5_asks m h r md) := by
    generalize v_X5_carries m p = x at ev zc ⊢
    have F : ∀ (y : Int32) (m2 : PM), An MX5_carries 92 [some (vR 7 0 0), some (vI (nI p)), some (vI (nI h)), some (vI (nI r)), some (vI md), some (vI x), none] [vI y] m2 (.inl (some (vI x))) m2 := by
      intro y m2
      refine an_b 2 (pc2 := 96) (L2 := [some (vR 7 0 0), some (vI (nI p)), some (vI (nI h)), some (vI (nI r)), some (vI md), some (vI x), some (vI y)]) (st2 := [vI x]) (m1 := m2) rfl ?_
      exact an_retz zc rfl rfl
    refine an_b 3 (pc2 := if ¬ x = 0 then 70 else 66) (L2 := [some (vR 7 0 0), some (vI (nI p)), some (vI (nI h)), some (vI (nI r)), some (vI md), some (vI x), none]) (st2 := []) (m1 := m) rfl ?_
    by_cases c : x = 0
    · refine an_f (fun k => k c) ?_
      rw [if_pos c]
      refine an_b 2 (pc2 := 92) (L2 := [some (vR 7 0 0), some (vI (nI p)), some (vI (nI h)), some (vI (nI r)), some (vI md), some (vI x), none]) (st2 := [vI 0]) (m1 := m) rfl ?_
      exact F _ _
    · refine an_t c ?_
      rw [if_neg c]
      refine an_b 2 (pc2 := if ¬ md = 0 then 84 else 75) (L2 := [some (vR 7 0 0), some (vI (nI p)), some (vI (nI h)), some (vI (nI r)), some (vI md), some (vI x), none]) (st2 := []) (m1 := m) rfl ?_
      by_cases c1 : md = 0
      · refine an_f (fun k => k c1) ?_
        rw [if_pos c1]
        refine an_b 3 (pc2 := 78) (L2 := [some (vR 7 0 0), some (vI (nI p)), some (vI (nI h)), some (vI (nI r)), some (vI md), some (vI x), none]) (st2 := [vI (nI r), vI (nI h), vR 7 0 0]) (m1 := m) rfl ?_
        refine an_call (r_X5_releases m h r hh hr hq) rfl rfl rfl rfl ?_
        refine an_b 1 (pc2 := 92) (L2 := [some (vR 7 0 0), some (vI (nI p)), some (vI (nI h)), some (vI (nI r)), some (vI md), some (vI x), none]) (st2 := [vI (v_X5_releases m h r)]) (m1 := w_X5_releases m h r) rfl ?_
        exact F _ _
      · refine an_t c1 ?_
        rw [if_neg c1]
        rw [if_neg c1] at ev
        have c2 : v_X5_waits m (nI h) = 0 := by
          by_cases c2 : v_X5_waits m (nI h) = 0
          · exact c2
          · rw [if_neg c2] at ev; exact absurd ev c
        have hA := hJ.2.2.1 m h r md h0 hh hr (by rcases e3 with e | e; exact absurd e c1; exact e) c2
        refine an_b 4 (pc2 := 89) (L2 := [some (vR 7 0 0), some (vI (nI p)), some (vI (nI h)), some (vI (nI r)), some (vI md), some (vI x), none]) (st2 := [vI md, vI (nI r), vI (nI h), vR 7 0 0]) (m1 := m) rfl ?_
        refine an_call (r_X5_asks m h r md hh hr hq hA.1 hA.2.1) rfl rfl rfl rfl ?_
        exact F _ _
  refine an_b 3 (pc2 := if ¬ md = 0 then 46 else 37) (L2 := [some (vR 7 0 0), some (vI (nI p)), some (vI (nI h)), some (vI (nI r)), some (vI md), none, none]) (st2 := []) (m1 := m) rfl ?_
  by_cases c1 : md = 0
  · refine an_f (fun k => k c1) ?_
    refine an_b 3 (pc2 := 40) (L2 := [some (vR 7 0 0), some (vI (nI p)), some (vI (nI h)), some (vI (nI r)), some (vI md), none, none]) (st2 := [vI (nI r), vI (nI h), vR 7 0 0]) (m1 := m) rfl ?_
    refine an_call (r_X5_canRelease m h r hh hr (ql_of hq)) rfl rfl rfl rfl ?_
    refine an_b 1 (pc2 := 59) (L2 := [some (vR 7 0 0), some (vI (nI p)), some (vI (nI h)), some (vI (nI r)), some (vI md), none, none]) (st2 := [vI (v_X5_canRelease m h r)]) (m1 := m) rfl ?_
    rw [if_pos c1] at ev
    rw [← ev]
    exact T
  · refine an_t c1 ?_
    refine an_b 2 (pc2 := 48) (L2 := [some (vR 7 0 0), some (vI (nI p)), some (vI (nI h)), some (vI (nI r)), some (vI md), none, none]) (st2 := [vI (nI h), vR 7 0 0]) (m1 := m) rfl ?_
    refine an_call (r_X5_waits m (nI h) (ql_of hq)) rfl rfl rfl rfl ?_
    refine an_b 1 (pc2 := if ¬ v_X5_waits m (nI h) = 0 then 58 else 54) (L2 := [some (vR 7 0 0), some (vI (nI p)), some (vI (nI h)), some (vI (nI r)), some (vI md), none, none]) (st2 := []) (m1 := m) rfl ?_
    rw [if_neg c1] at ev
    by_cases c2 : v_X5_waits m (nI h) = 0
    · refine an_f (fun k => k c2) ?_
      rw [if_pos c2] at ev
      rw [ev] at T ⊢
      refine an_b 2 (pc2 := 59) (L2 := [some (vR 7 0 0), some (vI (nI p)), some (vI (nI h)), some (vI (nI r)), some (vI md), none, none]) (st2 := [vI 1]) (m1 := m) rfl ?_
      exact T
    · refine an_t c2 ?_
      rw [if_neg c2] at ev
      rw [ev] at T ⊢
      refine an_b 1 (pc2 := 59) (L2 := [some (vR 7 0 0), some (vI (nI p)), some (vI (nI h)), some (vI (nI r)), some (vI md), none, none]) (st2 := [vI 0]) (m1 := m) rfl ?_
      exact T
