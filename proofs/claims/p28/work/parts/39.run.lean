/-! what leaves all but the row z alone; carries, run -/
def OZ (m m2 : PM) : Prop := (∀ t k g i, ¬ (t = 8 ∧ k = 0 ∧ g = 0) → m2.1 t k g i = m.1 t k g i) ∧ m2.2 = m.2
theorem oz_refl (m : PM) : OZ m m := ⟨fun _ _ _ _ _ => rfl, rfl⟩
theorem oz_trans {m m2 m3 : PM} (h : OZ m m2) (h2 : OZ m2 m3) : OZ m m3 := ⟨fun t k g i c => by rw [h2.1 t k g i c, h.1 t k g i c], by rw [h2.2, h.2]⟩
theorem oz_setz (m : PM) (f : Nat → Int32) : OZ m (setz m f) := ⟨fun t k g i c => by unfold setz; dsimp only; rw [if_neg c], rfl⟩
theorem oz_wI (m : PM) (i : Nat) (v : Int32) : OZ m (wI m 8 0 0 i v) := by rw [wI_setz]; exact oz_setz _ _
theorem oz_setLock (m : PM) (h r : Nat) (v : Int32) : OZ m (w_X5_setLock m h r v) := oz_wI _ _ _
theorem oz_settle (m : PM) (r : Nat) : OZ m (w_X5_settle m r) := oz_setz _ _
theorem oz_unq (m : PM) (r p : Nat) : OZ m (w_X5_unqueue m r p) := oz_setz _ _
theorem oz_enq (m : PM) (r h : Nat) (md : Int32) : OZ m (w_X5_enqueue m r h md) := oz_setz _ _
theorem oz_lose (m : PM) (h : Nat) : OZ m (w_X5_lose m h) := by
  have a : OZ m (lose_1 m h).2 := by
    refine lp_inv (b_X5_lose_1 m h) 12 (fun _ s => OZ m s.2) (fun j s hj hs => oz_trans hs ?_) 12 0 (0, m) rfl (oz_refl m)
    unfold b_X5_lose_1
    dsimp only
    split
    · exact oz_setLock _ _ _ _
    · exact oz_trans (oz_setLock _ _ _ _) (oz_unq _ _ _)
  have b : OZ m (lose_2 m h) := oz_trans a (oz_wI _ _ _)
  refine lp_inv (b_X5_lose_2 (lose_1 m h).1) 12 (fun _ s => OZ m s) (fun j s hj hs => oz_trans hs ?_) 12 0 _ rfl b
  unfold b_X5_lose_2
  split
  · exact oz_refl _
  · exact oz_settle _ _
theorem oz_ring (h : Nat) : ∀ (d : Nat) (m : PM), OZ m (ring h d m) := by
  intro d
  induction d with
  | zero => intro m; exact oz_refl m
  | succ d ih =>
    intro m
    unfold ring
    split
    · exact oz_refl m
    · exact oz_trans (oz_lose _ _) (ih _)
theorem oz_asks (m : PM) (h r : Nat) (md : Int32) : OZ m (w_X5_asks m h r md) := by
  unfold w_X5_asks
  split
  · exact oz_trans (oz_trans (oz_trans (oz_wI _ _ _) (oz_enq _ _ _ _)) (oz_settle _ _)) (oz_ring _ _ _)
  · exact oz_trans (oz_wI _ _ _) (oz_wI _ _ _)
theorem oz_releases (m : PM) (h r : Nat) : OZ m (w_X5_releases m h r) := oz_trans (oz_setLock _ _ _ _) (oz_settle _ _)
theorem oz_burn (m : PM) (r : Nat) : OZ m (w_X5_burn m r) := by
  have a : OZ m (lp (b_X5_burn_1 m r) 8 0 ((0 : Int32), m)).2 := by
    refine lp_inv (b_X5_burn_1 m r) 8 (fun _ s => OZ m s.2) (fun j s hj hs => oz_trans hs ?_) 8 0 (0, m) rfl (oz_refl m)
    unfold b_X5_burn_1
    dsimp only
    split
    · exact oz_refl _
    · exact oz_trans (oz_setLock _ _ _ _) (oz_wI _ _ _)
  exact oz_trans a (oz_wI _ _ _)
theorem oz_tick (m : PM) : OZ m (w_X5_tick m) := by
  have a : OZ m (tick_1 m) := by
    refine lp_inv b_X5_tick_1 12 (fun _ s => OZ m s) (fun j s hj hs => oz_trans hs ?_) 12 0 _ rfl (oz_wI _ _ _)
    exact oz_wI _ _ _
  refine lp_inv b_X5_tick_2 12 (fun _ s => OZ m s.2) (fun j s hj hs => oz_trans hs ?_) 12 0 (0, tick_1 m) rfl a
  unfold b_X5_tick_2
  dsimp only
  have w : OZ s.2 (tickW s.2 j) := by
    unfold tickW
    split
    · exact oz_refl _
    · exact oz_burn _ _
  split
  · exact w
  · exact oz_trans w (oz_settle _ _)
