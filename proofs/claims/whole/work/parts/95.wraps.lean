/-! the law's calls that may throw: each wrapper, and each step of both sides (make_wrap.py) -/
section
variable {A : AC} {D : va_G} {ad : PR → Nat} {Ba : Nat → Prop} {bs L9 : Nat} {xs : Nat → Int32}
theorem pl_ask (m : PM) (a1 : Int32) (a2 : Int32) (a3 : Int32) : (∃ b, o_X4_ask m a1 a2 a3 = .inl (some (vI b))) ∨ o_X4_ask m a1 a2 a3 = .inr 40 ∨ o_X4_ask m a1 a2 a3 = .inr 50 ∨ o_X4_ask m a1 a2 a3 = .inr 58 := by
  unfold o_X4_ask
  repeat' split
  all_goals first | exact Or.inl ⟨_, rfl⟩ | exact Or.inr (Or.inl rfl) | exact Or.inr (Or.inr (Or.inl rfl)) | exact Or.inr (Or.inr (Or.inr (rfl)))
def hs_ask : List (Nat × Nat × Int) := [(15, 40, 1), (19, 50, 2), (23, 58, 3)]
set_option maxRecDepth 100000 in
theorem wr_ask : wrG ML_ask (hhO 12 hs_ask) = true := by decide +kernel
set_option maxRecDepth 100000 in
theorem si_ask : siteB MX4_ask = true := by decide +kernel
theorem mw_ask (hw : WOK) (hdcs : ∀ o, ∀ q ∈ clk o, dcG q.2.2) (had : ad (10, 0, 0) = bs) {l : Launch} (hlt : l.stackTraces = false) (hdc : dcG ML_ask) {m : PM} (hD0 : va_D Ba (wd A ad m)) (a1 : Int32) (a2 : Int32) (a3 : Int32) : vx_Met l (mY ML_ask) (mWsW ML_ask (hhO 12 hs_ask)) (mRmX ML_ask) (mPcX A D ad Ba bs L9 xs [vR 3 0 0, vI a1, vI a2, vI a3, vR 9 0 0] m) (Qc0 A D ad Ba L9 xs (some (vI (wo (e3 1 2 3) (o_X4_ask m a1 a2 a3) (w_X4_ask m a1 a2 a3)).1)) (wo (e3 1 2 3) (o_X4_ask m a1 a2 a3) (w_X4_ask m a1 a2 a3)).2) (fun _ _ _ => False) 1 6 Ba := by
  have hp := pl_ask m a1 a2 a3
  have ht := t_X4_ask m a1 a2 a3
  generalize w_X4_ask m a1 a2 a3 = mm1 at *
  generalize o_X4_ask m a1 a2 a3 = o9 at *
  refine met_wrap hw hdcs had hlt (M := ML_ask) (M2 := MX4_ask) (hs := hs_ask) (pe := 12) (pcC := 7) (pcR := 28) (k := 6) (x := 7) (as := [vI a1, vI a2, vI a3]) (L0 := [some (vR 3 0 0), some (vI a1), some (vI a2), some (vI a3), some (vR 9 0 0), none]) wr_ask hdc rfl rfl (by decide) (by decide) si_ask (by decide) (by decide) rfl (show (5 : Nat) ≤ 6 by decide) rfl rfl (asc_mem (show asc (clk 6) 7 = some (1, MX4_ask) from rfl)) rfl ?_ hD0 ht (by decide) (fun v hv => ?_) rfl (fun y hy => ?_)
  · intro u hu
    obtain ⟨z, _, rfl⟩ := List.mem_map.mp (show u ∈ ([a1, a2, a3] : List Int32).map vI from hu)
    rfl
  · rcases hp with ⟨b, rfl⟩ | rfl | rfl | rfl
    · cases hv; exact ⟨b, rfl, rfl, rfl, rfl⟩
    · cases hv
    · cases hv
    · cases hv
  · rcases hp with ⟨b, rfl⟩ | rfl | rfl | rfl
    · cases hy
    · cases hy; exact ⟨rfl, [], 15, 1, [(19, 50, 2), (23, 58, 3)], rfl, by decide, by decide, by decide, rfl⟩
    · cases hy; exact ⟨rfl, [(15, 40, 1)], 19, 2, [(23, 58, 3)], rfl, by decide, by decide, by decide, rfl⟩
    · cases hy; exact ⟨rfl, [(15, 40, 1), (19, 50, 2)], 23, 3, [], rfl, by decide, by decide, by decide, rfl⟩
theorem st_ask {mm : PM} {s len K : Nat} (H : WR mm mm s len K) (a1 : Int32) (a2 : Int32) (a3 : Int32) : ∃ b m4 s2 l2, Rn MX5_ask [vR 7 0 0, vI a1, vI a2, vI a3] (wo (e3 1 2 3) (o_X4_ask mm a1 a2 a3) (w_X4_ask mm a1 a2 a3)).2 (some (vI b)) m4 ∧ WR m4 m4 s2 l2 (K + 20) ∧ m4.1 7 0 0 5 = (wo (e3 1 2 3) (o_X4_ask mm a1 a2 a3) (w_X4_ask mm a1 a2 a3)).1 ∧ ((wo (e3 1 2 3) (o_X4_ask mm a1 a2 a3) (w_X4_ask mm a1 a2 a3)).1 = 0 → m4.2 9 0 0 0 = b.toInt64) := by
  refine st_gen H (fr_an cl_Tc ?_ (t_X4_ask mm a1 a2 a3)) (fun m hm => face_ask hm a1 a2 a3) ?_ ?_
  · intro v hv
    simp only [List.mem_cons, List.not_mem_nil, or_false, Option.some.injEq, reduceCtorEq] at hv
    rcases hv with rfl | rfl | rfl | rfl
    · exact (show (3 : Nat) ≤ 6 by decide)
    · exact trivial
    · exact trivial
    · exact trivial
  · intro v hv
    rcases List.mem_cons.mp hv with rfl | hv
    · exact Or.inl rfl
    · obtain ⟨z, _, rfl⟩ := List.mem_map.mp (show v ∈ ([a1, a2, a3] : List Int32).map vI from hv)
      exact trivial
  · intro x hx
    rcases pl_ask mm a1 a2 a3 with ⟨b, h⟩ | h | h | h
    · rw [hx] at h; cases h
    · rw [hx] at h; cases h; decide
    · rw [hx] at h; cases h; decide
    · rw [hx] at h; cases h; decide
theorem pl_release (m : PM) (a1 : Int32) (a2 : Int32) : (∃ b, o_X4_release m a1 a2 = .inl (some (vI b))) ∨ o_X4_release m a1 a2 = .inr 40 ∨ o_X4_release m a1 a2 = .inr 58 := by
  unfold o_X4_release
  repeat' split
  all_goals first | exact Or.inl ⟨_, rfl⟩ | exact Or.inr (Or.inl rfl) | exact Or.inr (Or.inr (rfl))
def hs_release : List (Nat × Nat × Int) := [(13, 40, 1), (17, 58, 2)]
set_option maxRecDepth 100000 in
theorem wr_release : wrG ML_release (hhO 10 hs_release) = true := by decide +kernel
set_option maxRecDepth 100000 in
theorem si_release : siteB MX4_release = true := by decide +kernel
theorem mw_release (hw : WOK) (hdcs : ∀ o, ∀ q ∈ clk o, dcG q.2.2) (had : ad (10, 0, 0) = bs) {l : Launch} (hlt : l.stackTraces = false) (hdc : dcG ML_release) {m : PM} (hD0 : va_D Ba (wd A ad m)) (a1 : Int32) (a2 : Int32) : vx_Met l (mY ML_release) (mWsW ML_release (hhO 10 hs_release)) (mRmX ML_release) (mPcX A D ad Ba bs L9 xs [vR 3 0 0, vI a1, vI a2, vR 9 0 0] m) (Qc0 A D ad Ba L9 xs (some (vI (wo (e3 1 0 2) (o_X4_release m a1 a2) (w_X4_release m a1 a2)).1)) (wo (e3 1 0 2) (o_X4_release m a1 a2) (w_X4_release m a1 a2)).2) (fun _ _ _ => False) 1 6 Ba := by
  have hp := pl_release m a1 a2
  have ht := t_X4_release m a1 a2
  generalize w_X4_release m a1 a2 = mm1 at *
  generalize o_X4_release m a1 a2 = o9 at *
  refine met_wrap hw hdcs had hlt (M := ML_release) (M2 := MX4_release) (hs := hs_release) (pe := 10) (pcC := 5) (pcR := 22) (k := 5) (x := 19) (as := [vI a1, vI a2]) (L0 := [some (vR 3 0 0), some (vI a1), some (vI a2), some (vR 9 0 0), none]) wr_release hdc rfl rfl (by decide) (by decide) si_release (by decide) (by decide) rfl (show (4 : Nat) ≤ 5 by decide) rfl rfl (asc_mem (show asc (clk 6) 19 = some (1, MX4_release) from rfl)) rfl ?_ hD0 ht (by decide) (fun v hv => ?_) rfl (fun y hy => ?_)
  · intro u hu
    obtain ⟨z, _, rfl⟩ := List.mem_map.mp (show u ∈ ([a1, a2] : List Int32).map vI from hu)
    rfl
  · rcases hp with ⟨b, rfl⟩ | rfl | rfl
    · cases hv; exact ⟨b, rfl, rfl, rfl, rfl⟩
    · cases hv
    · cases hv
  · rcases hp with ⟨b, rfl⟩ | rfl | rfl
    · cases hy
    · cases hy; exact ⟨rfl, [], 13, 1, [(17, 58, 2)], rfl, by decide, by decide, by decide, rfl⟩
    · cases hy; exact ⟨rfl, [(13, 40, 1)], 17, 2, [], rfl, by decide, by decide, by decide, rfl⟩
theorem st_release {mm : PM} {s len K : Nat} (H : WR mm mm s len K) (a1 : Int32) (a2 : Int32) : ∃ b m4 s2 l2, Rn MX5_release [vR 7 0 0, vI a1, vI a2] (wo (e3 1 0 2) (o_X4_release mm a1 a2) (w_X4_release mm a1 a2)).2 (some (vI b)) m4 ∧ WR m4 m4 s2 l2 (K + 20) ∧ m4.1 7 0 0 5 = (wo (e3 1 0 2) (o_X4_release mm a1 a2) (w_X4_release mm a1 a2)).1 ∧ ((wo (e3 1 0 2) (o_X4_release mm a1 a2) (w_X4_release mm a1 a2)).1 = 0 → m4.2 9 0 0 0 = b.toInt64) := by
  refine st_gen H (fr_an cl_Tc ?_ (t_X4_release mm a1 a2)) (fun m hm => face_release hm a1 a2) ?_ ?_
  · intro v hv
    simp only [List.mem_cons, List.not_mem_nil, or_false, Option.some.injEq, reduceCtorEq] at hv
    rcases hv with rfl | rfl | rfl
    · exact (show (3 : Nat) ≤ 6 by decide)
    · exact trivial
    · exact trivial
  · intro v hv
    rcases List.mem_cons.mp hv with rfl | hv
    · exact Or.inl rfl
    · obtain ⟨z, _, rfl⟩ := List.mem_map.mp (show v ∈ ([a1, a2] : List Int32).map vI from hv)
      exact trivial
  · intro x hx
    rcases pl_release mm a1 a2 with ⟨b, h⟩ | h | h
    · rw [hx] at h; cases h
    · rw [hx] at h; cases h; decide
    · rw [hx] at h; cases h; decide
theorem pl_giveUp (m : PM) (a1 : Int32) : (∃ b, o_X4_giveUp m a1 = .inl (some (vI b))) ∨ o_X4_giveUp m a1 = .inr 40 ∨ o_X4_giveUp m a1 = .inr 58 := by
  unfold o_X4_giveUp
  repeat' split
  all_goals first | exact Or.inl ⟨_, rfl⟩ | exact Or.inr (Or.inl rfl) | exact Or.inr (Or.inr (rfl))
def hs_giveUp : List (Nat × Nat × Int) := [(12, 40, 1), (15, 58, 2)]
set_option maxRecDepth 100000 in
theorem wr_giveUp : wrG ML_giveUp (hhO 9 hs_giveUp) = true := by decide +kernel
set_option maxRecDepth 100000 in
theorem si_giveUp : siteB MX4_giveUp = true := by decide +kernel
theorem mw_giveUp (hw : WOK) (hdcs : ∀ o, ∀ q ∈ clk o, dcG q.2.2) (had : ad (10, 0, 0) = bs) {l : Launch} (hlt : l.stackTraces = false) (hdc : dcG ML_giveUp) {m : PM} (hD0 : va_D Ba (wd A ad m)) (a1 : Int32) : vx_Met l (mY ML_giveUp) (mWsW ML_giveUp (hhO 9 hs_giveUp)) (mRmX ML_giveUp) (mPcX A D ad Ba bs L9 xs [vR 3 0 0, vI a1, vR 9 0 0] m) (Qc0 A D ad Ba L9 xs (some (vI (wo (e3 1 0 2) (o_X4_giveUp m a1) (w_X4_giveUp m a1)).1)) (wo (e3 1 0 2) (o_X4_giveUp m a1) (w_X4_giveUp m a1)).2) (fun _ _ _ => False) 1 6 Ba := by
  have hp := pl_giveUp m a1
  have ht := t_X4_giveUp m a1
  generalize w_X4_giveUp m a1 = mm1 at *
  generalize o_X4_giveUp m a1 = o9 at *
  refine met_wrap hw hdcs had hlt (M := ML_giveUp) (M2 := MX4_giveUp) (hs := hs_giveUp) (pe := 9) (pcC := 4) (pcR := 19) (k := 4) (x := 23) (as := [vI a1]) (L0 := [some (vR 3 0 0), some (vI a1), some (vR 9 0 0), none]) wr_giveUp hdc rfl rfl (by decide) (by decide) si_giveUp (by decide) (by decide) rfl (show (3 : Nat) ≤ 4 by decide) rfl rfl (asc_mem (show asc (clk 6) 23 = some (1, MX4_giveUp) from rfl)) rfl ?_ hD0 ht (by decide) (fun v hv => ?_) rfl (fun y hy => ?_)
  · intro u hu
    obtain ⟨z, _, rfl⟩ := List.mem_map.mp (show u ∈ ([a1] : List Int32).map vI from hu)
    rfl
  · rcases hp with ⟨b, rfl⟩ | rfl | rfl
    · cases hv; exact ⟨b, rfl, rfl, rfl, rfl⟩
    · cases hv
    · cases hv
  · rcases hp with ⟨b, rfl⟩ | rfl | rfl
    · cases hy
    · cases hy; exact ⟨rfl, [], 12, 1, [(15, 58, 2)], rfl, by decide, by decide, by decide, rfl⟩
    · cases hy; exact ⟨rfl, [(12, 40, 1)], 15, 2, [], rfl, by decide, by decide, by decide, rfl⟩
theorem st_giveUp {mm : PM} {s len K : Nat} (H : WR mm mm s len K) (a1 : Int32) : ∃ b m4 s2 l2, Rn MX5_giveUp [vR 7 0 0, vI a1] (wo (e3 1 0 2) (o_X4_giveUp mm a1) (w_X4_giveUp mm a1)).2 (some (vI b)) m4 ∧ WR m4 m4 s2 l2 (K + 20) ∧ m4.1 7 0 0 5 = (wo (e3 1 0 2) (o_X4_giveUp mm a1) (w_X4_giveUp mm a1)).1 ∧ ((wo (e3 1 0 2) (o_X4_giveUp mm a1) (w_X4_giveUp mm a1)).1 = 0 → m4.2 9 0 0 0 = b.toInt64) := by
  refine st_gen H (fr_an cl_Tc ?_ (t_X4_giveUp mm a1)) (fun m hm => face_giveUp hm a1) ?_ ?_
  · intro v hv
    simp only [List.mem_cons, List.not_mem_nil, or_false, Option.some.injEq, reduceCtorEq] at hv
    rcases hv with rfl | rfl
    · exact (show (3 : Nat) ≤ 6 by decide)
    · exact trivial
  · intro v hv
    rcases List.mem_cons.mp hv with rfl | hv
    · exact Or.inl rfl
    · obtain ⟨z, _, rfl⟩ := List.mem_map.mp (show v ∈ ([a1] : List Int32).map vI from hv)
      exact trivial
  · intro x hx
    rcases pl_giveUp mm a1 with ⟨b, h⟩ | h | h
    · rw [hx] at h; cases h
    · rw [hx] at h; cases h; decide
    · rw [hx] at h; cases h; decide
theorem pl_handOn (m : PM) (a1 : Int32) (a2 : Int32) (a3 : Int32) : (∃ b, o_X4_handOn m a1 a2 a3 = .inl (some (vI b))) ∨ o_X4_handOn m a1 a2 a3 = .inr 40 ∨ o_X4_handOn m a1 a2 a3 = .inr 58 := by
  unfold o_X4_handOn
  repeat' split
  all_goals first | exact Or.inl ⟨_, rfl⟩ | exact Or.inr (Or.inl rfl) | exact Or.inr (Or.inr (rfl))
def hs_handOn : List (Nat × Nat × Int) := [(15, 40, 1), (19, 58, 2)]
set_option maxRecDepth 100000 in
theorem wr_handOn : wrG ML_handOn (hhO 12 hs_handOn) = true := by decide +kernel
set_option maxRecDepth 100000 in
theorem si_handOn : siteB MX4_handOn = true := by decide +kernel
theorem mw_handOn (hw : WOK) (hdcs : ∀ o, ∀ q ∈ clk o, dcG q.2.2) (had : ad (10, 0, 0) = bs) {l : Launch} (hlt : l.stackTraces = false) (hdc : dcG ML_handOn) {m : PM} (hD0 : va_D Ba (wd A ad m)) (a1 : Int32) (a2 : Int32) (a3 : Int32) : vx_Met l (mY ML_handOn) (mWsW ML_handOn (hhO 12 hs_handOn)) (mRmX ML_handOn) (mPcX A D ad Ba bs L9 xs [vR 3 0 0, vI a1, vI a2, vI a3, vR 9 0 0] m) (Qc0 A D ad Ba L9 xs (some (vI (wo (e3 1 0 2) (o_X4_handOn m a1 a2 a3) (w_X4_handOn m a1 a2 a3)).1)) (wo (e3 1 0 2) (o_X4_handOn m a1 a2 a3) (w_X4_handOn m a1 a2 a3)).2) (fun _ _ _ => False) 1 6 Ba := by
  have hp := pl_handOn m a1 a2 a3
  have ht := t_X4_handOn m a1 a2 a3
  generalize w_X4_handOn m a1 a2 a3 = mm1 at *
  generalize o_X4_handOn m a1 a2 a3 = o9 at *
  refine met_wrap hw hdcs had hlt (M := ML_handOn) (M2 := MX4_handOn) (hs := hs_handOn) (pe := 12) (pcC := 7) (pcR := 24) (k := 6) (x := 27) (as := [vI a1, vI a2, vI a3]) (L0 := [some (vR 3 0 0), some (vI a1), some (vI a2), some (vI a3), some (vR 9 0 0), none]) wr_handOn hdc rfl rfl (by decide) (by decide) si_handOn (by decide) (by decide) rfl (show (5 : Nat) ≤ 6 by decide) rfl rfl (asc_mem (show asc (clk 6) 27 = some (1, MX4_handOn) from rfl)) rfl ?_ hD0 ht (by decide) (fun v hv => ?_) rfl (fun y hy => ?_)
  · intro u hu
    obtain ⟨z, _, rfl⟩ := List.mem_map.mp (show u ∈ ([a1, a2, a3] : List Int32).map vI from hu)
    rfl
  · rcases hp with ⟨b, rfl⟩ | rfl | rfl
    · cases hv; exact ⟨b, rfl, rfl, rfl, rfl⟩
    · cases hv
    · cases hv
  · rcases hp with ⟨b, rfl⟩ | rfl | rfl
    · cases hy
    · cases hy; exact ⟨rfl, [], 15, 1, [(19, 58, 2)], rfl, by decide, by decide, by decide, rfl⟩
    · cases hy; exact ⟨rfl, [(15, 40, 1)], 19, 2, [], rfl, by decide, by decide, by decide, rfl⟩
theorem st_handOn {mm : PM} {s len K : Nat} (H : WR mm mm s len K) (a1 : Int32) (a2 : Int32) (a3 : Int32) : ∃ b m4 s2 l2, Rn MX5_handOn [vR 7 0 0, vI a1, vI a2, vI a3] (wo (e3 1 0 2) (o_X4_handOn mm a1 a2 a3) (w_X4_handOn mm a1 a2 a3)).2 (some (vI b)) m4 ∧ WR m4 m4 s2 l2 (K + 20) ∧ m4.1 7 0 0 5 = (wo (e3 1 0 2) (o_X4_handOn mm a1 a2 a3) (w_X4_handOn mm a1 a2 a3)).1 ∧ ((wo (e3 1 0 2) (o_X4_handOn mm a1 a2 a3) (w_X4_handOn mm a1 a2 a3)).1 = 0 → m4.2 9 0 0 0 = b.toInt64) := by
  refine st_gen H (fr_an cl_Tc ?_ (t_X4_handOn mm a1 a2 a3)) (fun m hm => face_handOn hm a1 a2 a3) ?_ ?_
  · intro v hv
    simp only [List.mem_cons, List.not_mem_nil, or_false, Option.some.injEq, reduceCtorEq] at hv
    rcases hv with rfl | rfl | rfl | rfl
    · exact (show (3 : Nat) ≤ 6 by decide)
    · exact trivial
    · exact trivial
    · exact trivial
  · intro v hv
    rcases List.mem_cons.mp hv with rfl | hv
    · exact Or.inl rfl
    · obtain ⟨z, _, rfl⟩ := List.mem_map.mp (show v ∈ ([a1, a2, a3] : List Int32).map vI from hv)
      exact trivial
  · intro x hx
    rcases pl_handOn mm a1 a2 a3 with ⟨b, h⟩ | h | h
    · rw [hx] at h; cases h
    · rw [hx] at h; cases h; decide
    · rw [hx] at h; cases h; decide
theorem pl_pass (m : PM) (a1 : Int32) : (∃ b, o_X4_pass m a1 = .inl (some (vI b))) ∨ o_X4_pass m a1 = .inr 50 := by
  unfold o_X4_pass
  repeat' split
  all_goals first | exact Or.inl ⟨_, rfl⟩ | exact Or.inr (rfl)
def hs_pass : List (Nat × Nat × Int) := [(12, 50, 1)]
set_option maxRecDepth 100000 in
theorem wr_pass : wrG ML_pass (hhO 9 hs_pass) = true := by decide +kernel
set_option maxRecDepth 100000 in
theorem si_pass : siteB MX4_pass = true := by decide +kernel
theorem mw_pass (hw : WOK) (hdcs : ∀ o, ∀ q ∈ clk o, dcG q.2.2) (had : ad (10, 0, 0) = bs) {l : Launch} (hlt : l.stackTraces = false) (hdc : dcG ML_pass) {m : PM} (hD0 : va_D Ba (wd A ad m)) (a1 : Int32) : vx_Met l (mY ML_pass) (mWsW ML_pass (hhO 9 hs_pass)) (mRmX ML_pass) (mPcX A D ad Ba bs L9 xs [vR 3 0 0, vI a1, vR 9 0 0] m) (Qc0 A D ad Ba L9 xs (some (vI (wo (e3 0 1 0) (o_X4_pass m a1) (w_X4_pass m a1)).1)) (wo (e3 0 1 0) (o_X4_pass m a1) (w_X4_pass m a1)).2) (fun _ _ _ => False) 1 6 Ba := by
  have hp := pl_pass m a1
  have ht := t_X4_pass m a1
  generalize w_X4_pass m a1 = mm1 at *
  generalize o_X4_pass m a1 = o9 at *
  refine met_wrap hw hdcs had hlt (M := ML_pass) (M2 := MX4_pass) (hs := hs_pass) (pe := 9) (pcC := 4) (pcR := 16) (k := 4) (x := 30) (as := [vI a1]) (L0 := [some (vR 3 0 0), some (vI a1), some (vR 9 0 0), none]) wr_pass hdc rfl rfl (by decide) (by decide) si_pass (by decide) (by decide) rfl (show (3 : Nat) ≤ 4 by decide) rfl rfl (asc_mem (show asc (clk 6) 30 = some (1, MX4_pass) from rfl)) rfl ?_ hD0 ht (by decide) (fun v hv => ?_) rfl (fun y hy => ?_)
  · intro u hu
    obtain ⟨z, _, rfl⟩ := List.mem_map.mp (show u ∈ ([a1] : List Int32).map vI from hu)
    rfl
  · rcases hp with ⟨b, rfl⟩ | rfl
    · cases hv; exact ⟨b, rfl, rfl, rfl, rfl⟩
    · cases hv
  · rcases hp with ⟨b, rfl⟩ | rfl
    · cases hy
    · cases hy; exact ⟨rfl, [], 12, 1, [], rfl, by decide, by decide, by decide, rfl⟩
theorem st_pass {mm : PM} {s len K : Nat} (H : WR mm mm s len K) (a1 : Int32) : ∃ b m4 s2 l2, Rn MX5_pass [vR 7 0 0, vI a1] (wo (e3 0 1 0) (o_X4_pass mm a1) (w_X4_pass mm a1)).2 (some (vI b)) m4 ∧ WR m4 m4 s2 l2 (K + 20) ∧ m4.1 7 0 0 5 = (wo (e3 0 1 0) (o_X4_pass mm a1) (w_X4_pass mm a1)).1 ∧ ((wo (e3 0 1 0) (o_X4_pass mm a1) (w_X4_pass mm a1)).1 = 0 → m4.2 9 0 0 0 = b.toInt64) := by
  refine st_gen H (fr_an cl_Tc ?_ (t_X4_pass mm a1)) (fun m hm => face_pass hm a1) ?_ ?_
  · intro v hv
    simp only [List.mem_cons, List.not_mem_nil, or_false, Option.some.injEq, reduceCtorEq] at hv
    rcases hv with rfl | rfl
    · exact (show (3 : Nat) ≤ 6 by decide)
    · exact trivial
  · intro v hv
    rcases List.mem_cons.mp hv with rfl | hv
    · exact Or.inl rfl
    · obtain ⟨z, _, rfl⟩ := List.mem_map.mp (show v ∈ ([a1] : List Int32).map vI from hv)
      exact trivial
  · intro x hx
    rcases pl_pass mm a1 with ⟨b, h⟩ | h
    · rw [hx] at h; cases h
    · rw [hx] at h; cases h; decide
theorem pl_cool (m : PM) (a1 : Int32) : (∃ b, o_X4_cool m a1 = .inl (some (vI b))) ∨ o_X4_cool m a1 = .inr 40 ∨ o_X4_cool m a1 = .inr 58 := by
  unfold o_X4_cool
  repeat' split
  all_goals first | exact Or.inl ⟨_, rfl⟩ | exact Or.inr (Or.inl rfl) | exact Or.inr (Or.inr (rfl))
def hs_cool : List (Nat × Nat × Int) := [(12, 40, 1), (15, 58, 2)]
set_option maxRecDepth 100000 in
theorem wr_cool : wrG ML_cool (hhO 9 hs_cool) = true := by decide +kernel
set_option maxRecDepth 100000 in
theorem si_cool : siteB MX4_cool = true := by decide +kernel
theorem mw_cool (hw : WOK) (hdcs : ∀ o, ∀ q ∈ clk o, dcG q.2.2) (had : ad (10, 0, 0) = bs) {l : Launch} (hlt : l.stackTraces = false) (hdc : dcG ML_cool) {m : PM} (hD0 : va_D Ba (wd A ad m)) (a1 : Int32) : vx_Met l (mY ML_cool) (mWsW ML_cool (hhO 9 hs_cool)) (mRmX ML_cool) (mPcX A D ad Ba bs L9 xs [vR 3 0 0, vI a1, vR 9 0 0] m) (Qc0 A D ad Ba L9 xs (some (vI (wo (e3 1 0 2) (o_X4_cool m a1) (w_X4_cool m a1)).1)) (wo (e3 1 0 2) (o_X4_cool m a1) (w_X4_cool m a1)).2) (fun _ _ _ => False) 1 6 Ba := by
  have hp := pl_cool m a1
  have ht := t_X4_cool m a1
  generalize w_X4_cool m a1 = mm1 at *
  generalize o_X4_cool m a1 = o9 at *
  refine met_wrap hw hdcs had hlt (M := ML_cool) (M2 := MX4_cool) (hs := hs_cool) (pe := 9) (pcC := 4) (pcR := 19) (k := 4) (x := 33) (as := [vI a1]) (L0 := [some (vR 3 0 0), some (vI a1), some (vR 9 0 0), none]) wr_cool hdc rfl rfl (by decide) (by decide) si_cool (by decide) (by decide) rfl (show (3 : Nat) ≤ 4 by decide) rfl rfl (asc_mem (show asc (clk 6) 33 = some (1, MX4_cool) from rfl)) rfl ?_ hD0 ht (by decide) (fun v hv => ?_) rfl (fun y hy => ?_)
  · intro u hu
    obtain ⟨z, _, rfl⟩ := List.mem_map.mp (show u ∈ ([a1] : List Int32).map vI from hu)
    rfl
  · rcases hp with ⟨b, rfl⟩ | rfl | rfl
    · cases hv; exact ⟨b, rfl, rfl, rfl, rfl⟩
    · cases hv
    · cases hv
  · rcases hp with ⟨b, rfl⟩ | rfl | rfl
    · cases hy
    · cases hy; exact ⟨rfl, [], 12, 1, [(15, 58, 2)], rfl, by decide, by decide, by decide, rfl⟩
    · cases hy; exact ⟨rfl, [(12, 40, 1)], 15, 2, [], rfl, by decide, by decide, by decide, rfl⟩
theorem st_cool {mm : PM} {s len K : Nat} (H : WR mm mm s len K) (a1 : Int32) : ∃ b m4 s2 l2, Rn MX5_cool [vR 7 0 0, vI a1] (wo (e3 1 0 2) (o_X4_cool mm a1) (w_X4_cool mm a1)).2 (some (vI b)) m4 ∧ WR m4 m4 s2 l2 (K + 20) ∧ m4.1 7 0 0 5 = (wo (e3 1 0 2) (o_X4_cool mm a1) (w_X4_cool mm a1)).1 ∧ ((wo (e3 1 0 2) (o_X4_cool mm a1) (w_X4_cool mm a1)).1 = 0 → m4.2 9 0 0 0 = b.toInt64) := by
  refine st_gen H (fr_an cl_Tc ?_ (t_X4_cool mm a1)) (fun m hm => face_cool hm a1) ?_ ?_
  · intro v hv
    simp only [List.mem_cons, List.not_mem_nil, or_false, Option.some.injEq, reduceCtorEq] at hv
    rcases hv with rfl | rfl
    · exact (show (3 : Nat) ≤ 6 by decide)
    · exact trivial
  · intro v hv
    rcases List.mem_cons.mp hv with rfl | hv
    · exact Or.inl rfl
    · obtain ⟨z, _, rfl⟩ := List.mem_map.mp (show v ∈ ([a1] : List Int32).map vI from hv)
      exact trivial
  · intro x hx
    rcases pl_cool mm a1 with ⟨b, h⟩ | h | h
    · rw [hx] at h; cases h
    · rw [hx] at h; cases h; decide
    · rw [hx] at h; cases h; decide
theorem pl_set (m : PM) (a1 : Int32) (a2 : Int32) : (∃ b, o_X4_set m a1 a2 = .inl (some (vI b))) ∨ o_X4_set m a1 a2 = .inr 40 ∨ o_X4_set m a1 a2 = .inr 50 := by
  unfold o_X4_set
  repeat' split
  all_goals first | exact Or.inl ⟨_, rfl⟩ | exact Or.inr (Or.inl rfl) | exact Or.inr (Or.inr (rfl))
def hs_set : List (Nat × Nat × Int) := [(13, 40, 1), (17, 50, 2)]
set_option maxRecDepth 100000 in
theorem wr_set : wrG ML_set (hhO 10 hs_set) = true := by decide +kernel
set_option maxRecDepth 100000 in
theorem si_set : siteB MX4_set = true := by decide +kernel
theorem mw_set (hw : WOK) (hdcs : ∀ o, ∀ q ∈ clk o, dcG q.2.2) (had : ad (10, 0, 0) = bs) {l : Launch} (hlt : l.stackTraces = false) (hdc : dcG ML_set) {m : PM} (hD0 : va_D Ba (wd A ad m)) (a1 : Int32) (a2 : Int32) : vx_Met l (mY ML_set) (mWsW ML_set (hhO 10 hs_set)) (mRmX ML_set) (mPcX A D ad Ba bs L9 xs [vR 3 0 0, vI a1, vI a2, vR 9 0 0] m) (Qc0 A D ad Ba L9 xs (some (vI (wo (e3 1 2 0) (o_X4_set m a1 a2) (w_X4_set m a1 a2)).1)) (wo (e3 1 2 0) (o_X4_set m a1 a2) (w_X4_set m a1 a2)).2) (fun _ _ _ => False) 1 6 Ba := by
  have hp := pl_set m a1 a2
  have ht := t_X4_set m a1 a2
  generalize w_X4_set m a1 a2 = mm1 at *
  generalize o_X4_set m a1 a2 = o9 at *
  refine met_wrap hw hdcs had hlt (M := ML_set) (M2 := MX4_set) (hs := hs_set) (pe := 10) (pcC := 5) (pcR := 22) (k := 5) (x := 36) (as := [vI a1, vI a2]) (L0 := [some (vR 3 0 0), some (vI a1), some (vI a2), some (vR 9 0 0), none]) wr_set hdc rfl rfl (by decide) (by decide) si_set (by decide) (by decide) rfl (show (4 : Nat) ≤ 5 by decide) rfl rfl (asc_mem (show asc (clk 6) 36 = some (1, MX4_set) from rfl)) rfl ?_ hD0 ht (by decide) (fun v hv => ?_) rfl (fun y hy => ?_)
  · intro u hu
    obtain ⟨z, _, rfl⟩ := List.mem_map.mp (show u ∈ ([a1, a2] : List Int32).map vI from hu)
    rfl
  · rcases hp with ⟨b, rfl⟩ | rfl | rfl
    · cases hv; exact ⟨b, rfl, rfl, rfl, rfl⟩
    · cases hv
    · cases hv
  · rcases hp with ⟨b, rfl⟩ | rfl | rfl
    · cases hy
    · cases hy; exact ⟨rfl, [], 13, 1, [(17, 50, 2)], rfl, by decide, by decide, by decide, rfl⟩
    · cases hy; exact ⟨rfl, [(13, 40, 1)], 17, 2, [], rfl, by decide, by decide, by decide, rfl⟩
theorem st_set {mm : PM} {s len K : Nat} (H : WR mm mm s len K) (a1 : Int32) (a2 : Int32) : ∃ b m4 s2 l2, Rn MX5_set [vR 7 0 0, vI a1, vI a2] (wo (e3 1 2 0) (o_X4_set mm a1 a2) (w_X4_set mm a1 a2)).2 (some (vI b)) m4 ∧ WR m4 m4 s2 l2 (K + 20) ∧ m4.1 7 0 0 5 = (wo (e3 1 2 0) (o_X4_set mm a1 a2) (w_X4_set mm a1 a2)).1 ∧ ((wo (e3 1 2 0) (o_X4_set mm a1 a2) (w_X4_set mm a1 a2)).1 = 0 → m4.2 9 0 0 0 = b.toInt64) := by
  refine st_gen H (fr_an cl_Tc ?_ (t_X4_set mm a1 a2)) (fun m hm => face_set hm a1 a2) ?_ ?_
  · intro v hv
    simp only [List.mem_cons, List.not_mem_nil, or_false, Option.some.injEq, reduceCtorEq] at hv
    rcases hv with rfl | rfl | rfl
    · exact (show (3 : Nat) ≤ 6 by decide)
    · exact trivial
    · exact trivial
  · intro v hv
    rcases List.mem_cons.mp hv with rfl | hv
    · exact Or.inl rfl
    · obtain ⟨z, _, rfl⟩ := List.mem_map.mp (show v ∈ ([a1, a2] : List Int32).map vI from hv)
      exact trivial
  · intro x hx
    rcases pl_set mm a1 a2 with ⟨b, h⟩ | h | h
    · rw [hx] at h; cases h
    · rw [hx] at h; cases h; decide
    · rw [hx] at h; cases h; decide
theorem pl_append (m : PM) (a1 : Int32) : (∃ b, o_X4_append m a1 = .inl (some (vI b))) ∨ o_X4_append m a1 = .inr 50 ∨ o_X4_append m a1 = .inr 58 := by
  unfold o_X4_append
  repeat' split
  all_goals first | exact Or.inl ⟨_, rfl⟩ | exact Or.inr (Or.inl rfl) | exact Or.inr (Or.inr (rfl))
def hs_append : List (Nat × Nat × Int) := [(12, 50, 1), (15, 58, 2)]
set_option maxRecDepth 100000 in
theorem wr_append : wrG ML_append (hhO 9 hs_append) = true := by decide +kernel
set_option maxRecDepth 100000 in
theorem si_append : siteB MX4_append = true := by decide +kernel
theorem mw_append (hw : WOK) (hdcs : ∀ o, ∀ q ∈ clk o, dcG q.2.2) (had : ad (10, 0, 0) = bs) {l : Launch} (hlt : l.stackTraces = false) (hdc : dcG ML_append) {m : PM} (hD0 : va_D Ba (wd A ad m)) (a1 : Int32) : vx_Met l (mY ML_append) (mWsW ML_append (hhO 9 hs_append)) (mRmX ML_append) (mPcX A D ad Ba bs L9 xs [vR 3 0 0, vI a1, vR 9 0 0] m) (Qc0 A D ad Ba L9 xs (some (vI (wo (e3 0 1 2) (o_X4_append m a1) (w_X4_append m a1)).1)) (wo (e3 0 1 2) (o_X4_append m a1) (w_X4_append m a1)).2) (fun _ _ _ => False) 1 6 Ba := by
  have hp := pl_append m a1
  have ht := t_X4_append m a1
  generalize w_X4_append m a1 = mm1 at *
  generalize o_X4_append m a1 = o9 at *
  refine met_wrap hw hdcs had hlt (M := ML_append) (M2 := MX4_append) (hs := hs_append) (pe := 9) (pcC := 4) (pcR := 19) (k := 4) (x := 39) (as := [vI a1]) (L0 := [some (vR 3 0 0), some (vI a1), some (vR 9 0 0), none]) wr_append hdc rfl rfl (by decide) (by decide) si_append (by decide) (by decide) rfl (show (3 : Nat) ≤ 4 by decide) rfl rfl (asc_mem (show asc (clk 6) 39 = some (1, MX4_append) from rfl)) rfl ?_ hD0 ht (by decide) (fun v hv => ?_) rfl (fun y hy => ?_)
  · intro u hu
    obtain ⟨z, _, rfl⟩ := List.mem_map.mp (show u ∈ ([a1] : List Int32).map vI from hu)
    rfl
  · rcases hp with ⟨b, rfl⟩ | rfl | rfl
    · cases hv; exact ⟨b, rfl, rfl, rfl, rfl⟩
    · cases hv
    · cases hv
  · rcases hp with ⟨b, rfl⟩ | rfl | rfl
    · cases hy
    · cases hy; exact ⟨rfl, [], 12, 1, [(15, 58, 2)], rfl, by decide, by decide, by decide, rfl⟩
    · cases hy; exact ⟨rfl, [(12, 50, 1)], 15, 2, [], rfl, by decide, by decide, by decide, rfl⟩
theorem st_append {mm : PM} {s len K : Nat} (H : WR mm mm s len K) (a1 : Int32) : ∃ b m4 s2 l2, Rn MX5_append [vR 7 0 0, vI a1] (wo (e3 0 1 2) (o_X4_append mm a1) (w_X4_append mm a1)).2 (some (vI b)) m4 ∧ WR m4 m4 s2 l2 (K + 20) ∧ m4.1 7 0 0 5 = (wo (e3 0 1 2) (o_X4_append mm a1) (w_X4_append mm a1)).1 ∧ ((wo (e3 0 1 2) (o_X4_append mm a1) (w_X4_append mm a1)).1 = 0 → m4.2 9 0 0 0 = b.toInt64) := by
  refine st_gen H (fr_an cl_Tc ?_ (t_X4_append mm a1)) (fun m hm => face_append hm a1) ?_ ?_
  · intro v hv
    simp only [List.mem_cons, List.not_mem_nil, or_false, Option.some.injEq, reduceCtorEq] at hv
    rcases hv with rfl | rfl
    · exact (show (3 : Nat) ≤ 6 by decide)
    · exact trivial
  · intro v hv
    rcases List.mem_cons.mp hv with rfl | hv
    · exact Or.inl rfl
    · obtain ⟨z, _, rfl⟩ := List.mem_map.mp (show v ∈ ([a1] : List Int32).map vI from hv)
      exact trivial
  · intro x hx
    rcases pl_append mm a1 with ⟨b, h⟩ | h | h
    · rw [hx] at h; cases h
    · rw [hx] at h; cases h; decide
    · rw [hx] at h; cases h; decide
theorem pl_run (m : PM) : (∃ b, o_X4_run m  = .inl (some (vI b))) ∨ o_X4_run m  = .inr 50 := by
  unfold o_X4_run
  repeat' split
  all_goals first | exact Or.inl ⟨_, rfl⟩ | exact Or.inr (rfl)
def hs_run : List (Nat × Nat × Int) := [(11, 50, 1)]
set_option maxRecDepth 100000 in
theorem wr_run : wrG ML_run (hhO 8 hs_run) = true := by decide +kernel
set_option maxRecDepth 100000 in
theorem si_run : siteB MX4_run = true := by decide +kernel
theorem mw_run (hw : WOK) (hdcs : ∀ o, ∀ q ∈ clk o, dcG q.2.2) (had : ad (10, 0, 0) = bs) {l : Launch} (hlt : l.stackTraces = false) (hdc : dcG ML_run) {m : PM} (hD0 : va_D Ba (wd A ad m)) : vx_Met l (mY ML_run) (mWsW ML_run (hhO 8 hs_run)) (mRmX ML_run) (mPcX A D ad Ba bs L9 xs [vR 3 0 0, vR 9 0 0] m) (Qc0 A D ad Ba L9 xs (some (vI (wo (e3 0 1 0) (o_X4_run m) (w_X4_run m)).1)) (wo (e3 0 1 0) (o_X4_run m) (w_X4_run m)).2) (fun _ _ _ => False) 1 6 Ba := by
  have hp := pl_run m 
  have ht := t_X4_run m 
  generalize w_X4_run m = mm1 at *
  generalize o_X4_run m  = o9 at *
  refine met_wrap hw hdcs had hlt (M := ML_run) (M2 := MX4_run) (hs := hs_run) (pe := 8) (pcC := 3) (pcR := 15) (k := 3) (x := 42) (as := []) (L0 := [some (vR 3 0 0), some (vR 9 0 0), none]) wr_run hdc rfl rfl (by decide) (by decide) si_run (by decide) (by decide) rfl (show (2 : Nat) ≤ 3 by decide) rfl rfl (asc_mem (show asc (clk 6) 42 = some (1, MX4_run) from rfl)) rfl ?_ hD0 ht (by decide) (fun v hv => ?_) rfl (fun y hy => ?_)
  · intro u hu
    obtain ⟨z, _, rfl⟩ := List.mem_map.mp (show u ∈ ([] : List Int32).map vI from hu)
    rfl
  · rcases hp with ⟨b, rfl⟩ | rfl
    · cases hv; exact ⟨b, rfl, rfl, rfl, rfl⟩
    · cases hv
  · rcases hp with ⟨b, rfl⟩ | rfl
    · cases hy
    · cases hy; exact ⟨rfl, [], 11, 1, [], rfl, by decide, by decide, by decide, rfl⟩
theorem st_run {mm : PM} {s len K : Nat} (H : WR mm mm s len K) : ∃ b m4 s2 l2, Rn MX5_run [vR 7 0 0] (wo (e3 0 1 0) (o_X4_run mm) (w_X4_run mm)).2 (some (vI b)) m4 ∧ WR m4 m4 s2 l2 (K + 20) ∧ m4.1 7 0 0 5 = (wo (e3 0 1 0) (o_X4_run mm) (w_X4_run mm)).1 ∧ ((wo (e3 0 1 0) (o_X4_run mm) (w_X4_run mm)).1 = 0 → m4.2 9 0 0 0 = b.toInt64) := by
  refine st_gen H (fr_an cl_Tc ?_ (t_X4_run mm )) (fun m hm => face_run hm ) ?_ ?_
  · intro v hv
    simp only [List.mem_cons, List.not_mem_nil, or_false, Option.some.injEq, reduceCtorEq] at hv
    rcases hv with rfl
    exact (show (3 : Nat) ≤ 6 by decide)
  · intro v hv
    rcases List.mem_cons.mp hv with rfl | hv
    · exact Or.inl rfl
    · cases hv
  · intro x hx
    rcases pl_run mm  with ⟨b, h⟩ | h
    · rw [hx] at h; cases h
    · rw [hx] at h; cases h; decide
theorem pl_undo (m : PM) : (∃ b, o_X4_undo m  = .inl (some (vI b))) ∨ o_X4_undo m  = .inr 58 := by
  unfold o_X4_undo
  repeat' split
  all_goals first | exact Or.inl ⟨_, rfl⟩ | exact Or.inr (rfl)
def hs_undo : List (Nat × Nat × Int) := [(11, 58, 1)]
set_option maxRecDepth 100000 in
theorem wr_undo : wrG ML_undo (hhO 8 hs_undo) = true := by decide +kernel
set_option maxRecDepth 100000 in
theorem si_undo : siteB MX4_undo = true := by decide +kernel
theorem mw_undo (hw : WOK) (hdcs : ∀ o, ∀ q ∈ clk o, dcG q.2.2) (had : ad (10, 0, 0) = bs) {l : Launch} (hlt : l.stackTraces = false) (hdc : dcG ML_undo) {m : PM} (hD0 : va_D Ba (wd A ad m)) : vx_Met l (mY ML_undo) (mWsW ML_undo (hhO 8 hs_undo)) (mRmX ML_undo) (mPcX A D ad Ba bs L9 xs [vR 3 0 0, vR 9 0 0] m) (Qc0 A D ad Ba L9 xs (some (vI (wo (e3 0 0 1) (o_X4_undo m) (w_X4_undo m)).1)) (wo (e3 0 0 1) (o_X4_undo m) (w_X4_undo m)).2) (fun _ _ _ => False) 1 6 Ba := by
  have hp := pl_undo m 
  have ht := t_X4_undo m 
  generalize w_X4_undo m = mm1 at *
  generalize o_X4_undo m  = o9 at *
  refine met_wrap hw hdcs had hlt (M := ML_undo) (M2 := MX4_undo) (hs := hs_undo) (pe := 8) (pcC := 3) (pcR := 15) (k := 3) (x := 46) (as := []) (L0 := [some (vR 3 0 0), some (vR 9 0 0), none]) wr_undo hdc rfl rfl (by decide) (by decide) si_undo (by decide) (by decide) rfl (show (2 : Nat) ≤ 3 by decide) rfl rfl (asc_mem (show asc (clk 6) 46 = some (1, MX4_undo) from rfl)) rfl ?_ hD0 ht (by decide) (fun v hv => ?_) rfl (fun y hy => ?_)
  · intro u hu
    obtain ⟨z, _, rfl⟩ := List.mem_map.mp (show u ∈ ([] : List Int32).map vI from hu)
    rfl
  · rcases hp with ⟨b, rfl⟩ | rfl
    · cases hv; exact ⟨b, rfl, rfl, rfl, rfl⟩
    · cases hv
  · rcases hp with ⟨b, rfl⟩ | rfl
    · cases hy
    · cases hy; exact ⟨rfl, [], 11, 1, [], rfl, by decide, by decide, by decide, rfl⟩
theorem st_undo {mm : PM} {s len K : Nat} (H : WR mm mm s len K) : ∃ b m4 s2 l2, Rn MX5_undo [vR 7 0 0] (wo (e3 0 0 1) (o_X4_undo mm) (w_X4_undo mm)).2 (some (vI b)) m4 ∧ WR m4 m4 s2 l2 (K + 20) ∧ m4.1 7 0 0 5 = (wo (e3 0 0 1) (o_X4_undo mm) (w_X4_undo mm)).1 ∧ ((wo (e3 0 0 1) (o_X4_undo mm) (w_X4_undo mm)).1 = 0 → m4.2 9 0 0 0 = b.toInt64) := by
  refine st_gen H (fr_an cl_Tc ?_ (t_X4_undo mm )) (fun m hm => face_undo hm ) ?_ ?_
  · intro v hv
    simp only [List.mem_cons, List.not_mem_nil, or_false, Option.some.injEq, reduceCtorEq] at hv
    rcases hv with rfl
    exact (show (3 : Nat) ≤ 6 by decide)
  · intro v hv
    rcases List.mem_cons.mp hv with rfl | hv
    · exact Or.inl rfl
    · cases hv
  · intro x hx
    rcases pl_undo mm  with ⟨b, h⟩ | h
    · rw [hx] at h; cases h
    · rw [hx] at h; cases h; decide
theorem pl_lock (m : PM) (a1 : Int32) (a2 : Int32) : (∃ b, o_X4_lock m a1 a2 = .inl (some (vI b))) ∨ o_X4_lock m a1 a2 = .inr 40 := by
  unfold o_X4_lock
  repeat' split
  all_goals first | exact Or.inl ⟨_, rfl⟩ | exact Or.inr (rfl)
def hs_lock : List (Nat × Nat × Int) := [(13, 40, 1)]
set_option maxRecDepth 100000 in
theorem wr_lock : wrG ML_lock (hhO 10 hs_lock) = true := by decide +kernel
set_option maxRecDepth 100000 in
theorem si_lock : siteB MX4_lock = true := by decide +kernel
theorem mw_lock (hw : WOK) (hdcs : ∀ o, ∀ q ∈ clk o, dcG q.2.2) (had : ad (10, 0, 0) = bs) {l : Launch} (hlt : l.stackTraces = false) (hdc : dcG ML_lock) {m : PM} (hD0 : va_D Ba (wd A ad m)) (a1 : Int32) (a2 : Int32) : vx_Met l (mY ML_lock) (mWsW ML_lock (hhO 10 hs_lock)) (mRmX ML_lock) (mPcX A D ad Ba bs L9 xs [vR 3 0 0, vI a1, vI a2, vR 9 0 0] m) (Qc0 A D ad Ba L9 xs (some (vI (wo (e3 1 0 0) (o_X4_lock m a1 a2) m).1)) (wo (e3 1 0 0) (o_X4_lock m a1 a2) m).2) (fun _ _ _ => False) 1 6 Ba := by
  have hp := pl_lock m a1 a2
  have ht := t_X4_lock m a1 a2
  generalize o_X4_lock m a1 a2 = o9 at *
  refine met_wrap hw hdcs had hlt (M := ML_lock) (M2 := MX4_lock) (hs := hs_lock) (pe := 10) (pcC := 5) (pcR := 18) (k := 5) (x := 49) (as := [vI a1, vI a2]) (L0 := [some (vR 3 0 0), some (vI a1), some (vI a2), some (vR 9 0 0), none]) wr_lock hdc rfl rfl (by decide) (by decide) si_lock (by decide) (by decide) rfl (show (4 : Nat) ≤ 5 by decide) rfl rfl (asc_mem (show asc (clk 6) 49 = some (1, MX4_lock) from rfl)) rfl ?_ hD0 ht (by decide) (fun v hv => ?_) rfl (fun y hy => ?_)
  · intro u hu
    obtain ⟨z, _, rfl⟩ := List.mem_map.mp (show u ∈ ([a1, a2] : List Int32).map vI from hu)
    rfl
  · rcases hp with ⟨b, rfl⟩ | rfl
    · cases hv; exact ⟨b, rfl, rfl, rfl, rfl⟩
    · cases hv
  · rcases hp with ⟨b, rfl⟩ | rfl
    · cases hy
    · cases hy; exact ⟨rfl, [], 13, 1, [], rfl, by decide, by decide, by decide, rfl⟩
theorem st_lock {mm : PM} {s len K : Nat} (H : WR mm mm s len K) (a1 : Int32) (a2 : Int32) : ∃ b m4 s2 l2, Rn MX5_lock [vR 7 0 0, vI a1, vI a2] (wo (e3 1 0 0) (o_X4_lock mm a1 a2) mm).2 (some (vI b)) m4 ∧ WR m4 m4 s2 l2 (K + 20) ∧ m4.1 7 0 0 5 = (wo (e3 1 0 0) (o_X4_lock mm a1 a2) mm).1 ∧ ((wo (e3 1 0 0) (o_X4_lock mm a1 a2) mm).1 = 0 → m4.2 9 0 0 0 = b.toInt64) := by
  refine st_gen H (fr_an cl_Tc ?_ (t_X4_lock mm a1 a2)) (fun m hm => face_lock hm a1 a2) ?_ ?_
  · intro v hv
    simp only [List.mem_cons, List.not_mem_nil, or_false, Option.some.injEq, reduceCtorEq] at hv
    rcases hv with rfl | rfl | rfl
    · exact (show (3 : Nat) ≤ 6 by decide)
    · exact trivial
    · exact trivial
  · intro v hv
    rcases List.mem_cons.mp hv with rfl | hv
    · exact Or.inl rfl
    · obtain ⟨z, _, rfl⟩ := List.mem_map.mp (show v ∈ ([a1, a2] : List Int32).map vI from hv)
      exact trivial
  · intro x hx
    rcases pl_lock mm a1 a2 with ⟨b, h⟩ | h
    · rw [hx] at h; cases h
    · rw [hx] at h; cases h; decide
theorem pl_hand (m : PM) (a1 : Int32) (a2 : Int32) : (∃ b, o_X4_hand m a1 a2 = .inl (some (vI b))) ∨ o_X4_hand m a1 a2 = .inr 40 ∨ o_X4_hand m a1 a2 = .inr 50 := by
  unfold o_X4_hand
  repeat' split
  all_goals first | exact Or.inl ⟨_, rfl⟩ | exact Or.inr (Or.inl rfl) | exact Or.inr (Or.inr (rfl))
def hs_hand : List (Nat × Nat × Int) := [(13, 40, 1), (17, 50, 2)]
set_option maxRecDepth 100000 in
theorem wr_hand : wrG ML_hand (hhO 10 hs_hand) = true := by decide +kernel
set_option maxRecDepth 100000 in
theorem si_hand : siteB MX4_hand = true := by decide +kernel
theorem mw_hand (hw : WOK) (hdcs : ∀ o, ∀ q ∈ clk o, dcG q.2.2) (had : ad (10, 0, 0) = bs) {l : Launch} (hlt : l.stackTraces = false) (hdc : dcG ML_hand) {m : PM} (hD0 : va_D Ba (wd A ad m)) (a1 : Int32) (a2 : Int32) : vx_Met l (mY ML_hand) (mWsW ML_hand (hhO 10 hs_hand)) (mRmX ML_hand) (mPcX A D ad Ba bs L9 xs [vR 3 0 0, vI a1, vI a2, vR 9 0 0] m) (Qc0 A D ad Ba L9 xs (some (vI (wo (e3 1 2 0) (o_X4_hand m a1 a2) m).1)) (wo (e3 1 2 0) (o_X4_hand m a1 a2) m).2) (fun _ _ _ => False) 1 6 Ba := by
  have hp := pl_hand m a1 a2
  have ht := t_X4_hand m a1 a2
  generalize o_X4_hand m a1 a2 = o9 at *
  refine met_wrap hw hdcs had hlt (M := ML_hand) (M2 := MX4_hand) (hs := hs_hand) (pe := 10) (pcC := 5) (pcR := 22) (k := 5) (x := 52) (as := [vI a1, vI a2]) (L0 := [some (vR 3 0 0), some (vI a1), some (vI a2), some (vR 9 0 0), none]) wr_hand hdc rfl rfl (by decide) (by decide) si_hand (by decide) (by decide) rfl (show (4 : Nat) ≤ 5 by decide) rfl rfl (asc_mem (show asc (clk 6) 52 = some (1, MX4_hand) from rfl)) rfl ?_ hD0 ht (by decide) (fun v hv => ?_) rfl (fun y hy => ?_)
  · intro u hu
    obtain ⟨z, _, rfl⟩ := List.mem_map.mp (show u ∈ ([a1, a2] : List Int32).map vI from hu)
    rfl
  · rcases hp with ⟨b, rfl⟩ | rfl | rfl
    · cases hv; exact ⟨b, rfl, rfl, rfl, rfl⟩
    · cases hv
    · cases hv
  · rcases hp with ⟨b, rfl⟩ | rfl | rfl
    · cases hy
    · cases hy; exact ⟨rfl, [], 13, 1, [(17, 50, 2)], rfl, by decide, by decide, by decide, rfl⟩
    · cases hy; exact ⟨rfl, [(13, 40, 1)], 17, 2, [], rfl, by decide, by decide, by decide, rfl⟩
theorem st_hand {mm : PM} {s len K : Nat} (H : WR mm mm s len K) (a1 : Int32) (a2 : Int32) : ∃ b m4 s2 l2, Rn MX5_hand [vR 7 0 0, vI a1, vI a2] (wo (e3 1 2 0) (o_X4_hand mm a1 a2) mm).2 (some (vI b)) m4 ∧ WR m4 m4 s2 l2 (K + 20) ∧ m4.1 7 0 0 5 = (wo (e3 1 2 0) (o_X4_hand mm a1 a2) mm).1 ∧ ((wo (e3 1 2 0) (o_X4_hand mm a1 a2) mm).1 = 0 → m4.2 9 0 0 0 = b.toInt64) := by
  refine st_gen H (fr_an cl_Tc ?_ (t_X4_hand mm a1 a2)) (fun m hm => face_hand hm a1 a2) ?_ ?_
  · intro v hv
    simp only [List.mem_cons, List.not_mem_nil, or_false, Option.some.injEq, reduceCtorEq] at hv
    rcases hv with rfl | rfl | rfl
    · exact (show (3 : Nat) ≤ 6 by decide)
    · exact trivial
    · exact trivial
  · intro v hv
    rcases List.mem_cons.mp hv with rfl | hv
    · exact Or.inl rfl
    · obtain ⟨z, _, rfl⟩ := List.mem_map.mp (show v ∈ ([a1, a2] : List Int32).map vI from hv)
      exact trivial
  · intro x hx
    rcases pl_hand mm a1 a2 with ⟨b, h⟩ | h | h
    · rw [hx] at h; cases h
    · rw [hx] at h; cases h; decide
    · rw [hx] at h; cases h; decide
theorem pl_row (m : PM) (a1 : Int32) (a2 : Int32) : (∃ b, o_X4_row m a1 a2 = .inl (some (vI b))) ∨ o_X4_row m a1 a2 = .inr 40 ∨ o_X4_row m a1 a2 = .inr 50 := by
  unfold o_X4_row
  repeat' split
  all_goals first | exact Or.inl ⟨_, rfl⟩ | exact Or.inr (Or.inl rfl) | exact Or.inr (Or.inr (rfl))
def hs_row : List (Nat × Nat × Int) := [(13, 40, 1), (17, 50, 2)]
set_option maxRecDepth 100000 in
theorem wr_row : wrG ML_row (hhO 10 hs_row) = true := by decide +kernel
set_option maxRecDepth 100000 in
theorem si_row : siteB MX4_row = true := by decide +kernel
theorem mw_row (hw : WOK) (hdcs : ∀ o, ∀ q ∈ clk o, dcG q.2.2) (had : ad (10, 0, 0) = bs) {l : Launch} (hlt : l.stackTraces = false) (hdc : dcG ML_row) {m : PM} (hD0 : va_D Ba (wd A ad m)) (a1 : Int32) (a2 : Int32) : vx_Met l (mY ML_row) (mWsW ML_row (hhO 10 hs_row)) (mRmX ML_row) (mPcX A D ad Ba bs L9 xs [vR 3 0 0, vI a1, vI a2, vR 9 0 0] m) (Qc0 A D ad Ba L9 xs (some (vI (wo (e3 1 2 0) (o_X4_row m a1 a2) m).1)) (wo (e3 1 2 0) (o_X4_row m a1 a2) m).2) (fun _ _ _ => False) 1 6 Ba := by
  have hp := pl_row m a1 a2
  have ht := t_X4_row m a1 a2
  generalize o_X4_row m a1 a2 = o9 at *
  refine met_wrap hw hdcs had hlt (M := ML_row) (M2 := MX4_row) (hs := hs_row) (pe := 10) (pcC := 5) (pcR := 22) (k := 5) (x := 55) (as := [vI a1, vI a2]) (L0 := [some (vR 3 0 0), some (vI a1), some (vI a2), some (vR 9 0 0), none]) wr_row hdc rfl rfl (by decide) (by decide) si_row (by decide) (by decide) rfl (show (4 : Nat) ≤ 5 by decide) rfl rfl (asc_mem (show asc (clk 6) 55 = some (1, MX4_row) from rfl)) rfl ?_ hD0 ht (by decide) (fun v hv => ?_) rfl (fun y hy => ?_)
  · intro u hu
    obtain ⟨z, _, rfl⟩ := List.mem_map.mp (show u ∈ ([a1, a2] : List Int32).map vI from hu)
    rfl
  · rcases hp with ⟨b, rfl⟩ | rfl | rfl
    · cases hv; exact ⟨b, rfl, rfl, rfl, rfl⟩
    · cases hv
    · cases hv
  · rcases hp with ⟨b, rfl⟩ | rfl | rfl
    · cases hy
    · cases hy; exact ⟨rfl, [], 13, 1, [(17, 50, 2)], rfl, by decide, by decide, by decide, rfl⟩
    · cases hy; exact ⟨rfl, [(13, 40, 1)], 17, 2, [], rfl, by decide, by decide, by decide, rfl⟩
theorem st_row {mm : PM} {s len K : Nat} (H : WR mm mm s len K) (a1 : Int32) (a2 : Int32) : ∃ b m4 s2 l2, Rn MX5_row [vR 7 0 0, vI a1, vI a2] (wo (e3 1 2 0) (o_X4_row mm a1 a2) mm).2 (some (vI b)) m4 ∧ WR m4 m4 s2 l2 (K + 20) ∧ m4.1 7 0 0 5 = (wo (e3 1 2 0) (o_X4_row mm a1 a2) mm).1 ∧ ((wo (e3 1 2 0) (o_X4_row mm a1 a2) mm).1 = 0 → m4.2 9 0 0 0 = b.toInt64) := by
  refine st_gen H (fr_an cl_Tc ?_ (t_X4_row mm a1 a2)) (fun m hm => face_row hm a1 a2) ?_ ?_
  · intro v hv
    simp only [List.mem_cons, List.not_mem_nil, or_false, Option.some.injEq, reduceCtorEq] at hv
    rcases hv with rfl | rfl | rfl
    · exact (show (3 : Nat) ≤ 6 by decide)
    · exact trivial
    · exact trivial
  · intro v hv
    rcases List.mem_cons.mp hv with rfl | hv
    · exact Or.inl rfl
    · obtain ⟨z, _, rfl⟩ := List.mem_map.mp (show v ∈ ([a1, a2] : List Int32).map vI from hv)
      exact trivial
  · intro x hx
    rcases pl_row mm a1 a2 with ⟨b, h⟩ | h | h
    · rw [hx] at h; cases h
    · rw [hx] at h; cases h; decide
    · rw [hx] at h; cases h; decide
theorem pl_request (m : PM) (a1 : Int32) (a2 : Int32) (a3 : Int32) : (∃ b, o_X4_request m a1 a2 a3 = .inl (some (vI b))) ∨ o_X4_request m a1 a2 a3 = .inr 40 ∨ o_X4_request m a1 a2 a3 = .inr 50 := by
  unfold o_X4_request
  repeat' split
  all_goals first | exact Or.inl ⟨_, rfl⟩ | exact Or.inr (Or.inl rfl) | exact Or.inr (Or.inr (rfl))
def hs_request : List (Nat × Nat × Int) := [(15, 40, 1), (19, 50, 2)]
set_option maxRecDepth 100000 in
theorem wr_request : wrG ML_request (hhO 12 hs_request) = true := by decide +kernel
set_option maxRecDepth 100000 in
theorem si_request : siteB MX4_request = true := by decide +kernel
theorem mw_request (hw : WOK) (hdcs : ∀ o, ∀ q ∈ clk o, dcG q.2.2) (had : ad (10, 0, 0) = bs) {l : Launch} (hlt : l.stackTraces = false) (hdc : dcG ML_request) {m : PM} (hD0 : va_D Ba (wd A ad m)) (a1 : Int32) (a2 : Int32) (a3 : Int32) : vx_Met l (mY ML_request) (mWsW ML_request (hhO 12 hs_request)) (mRmX ML_request) (mPcX A D ad Ba bs L9 xs [vR 3 0 0, vI a1, vI a2, vI a3, vR 9 0 0] m) (Qc0 A D ad Ba L9 xs (some (vI (wo (e3 1 2 0) (o_X4_request m a1 a2 a3) m).1)) (wo (e3 1 2 0) (o_X4_request m a1 a2 a3) m).2) (fun _ _ _ => False) 1 6 Ba := by
  have hp := pl_request m a1 a2 a3
  have ht := t_X4_request m a1 a2 a3
  generalize o_X4_request m a1 a2 a3 = o9 at *
  refine met_wrap hw hdcs had hlt (M := ML_request) (M2 := MX4_request) (hs := hs_request) (pe := 12) (pcC := 7) (pcR := 24) (k := 6) (x := 58) (as := [vI a1, vI a2, vI a3]) (L0 := [some (vR 3 0 0), some (vI a1), some (vI a2), some (vI a3), some (vR 9 0 0), none]) wr_request hdc rfl rfl (by decide) (by decide) si_request (by decide) (by decide) rfl (show (5 : Nat) ≤ 6 by decide) rfl rfl (asc_mem (show asc (clk 6) 58 = some (1, MX4_request) from rfl)) rfl ?_ hD0 ht (by decide) (fun v hv => ?_) rfl (fun y hy => ?_)
  · intro u hu
    obtain ⟨z, _, rfl⟩ := List.mem_map.mp (show u ∈ ([a1, a2, a3] : List Int32).map vI from hu)
    rfl
  · rcases hp with ⟨b, rfl⟩ | rfl | rfl
    · cases hv; exact ⟨b, rfl, rfl, rfl, rfl⟩
    · cases hv
    · cases hv
  · rcases hp with ⟨b, rfl⟩ | rfl | rfl
    · cases hy
    · cases hy; exact ⟨rfl, [], 15, 1, [(19, 50, 2)], rfl, by decide, by decide, by decide, rfl⟩
    · cases hy; exact ⟨rfl, [(15, 40, 1)], 19, 2, [], rfl, by decide, by decide, by decide, rfl⟩
theorem st_request {mm : PM} {s len K : Nat} (H : WR mm mm s len K) (a1 : Int32) (a2 : Int32) (a3 : Int32) : ∃ b m4 s2 l2, Rn MX5_request [vR 7 0 0, vI a1, vI a2, vI a3] (wo (e3 1 2 0) (o_X4_request mm a1 a2 a3) mm).2 (some (vI b)) m4 ∧ WR m4 m4 s2 l2 (K + 20) ∧ m4.1 7 0 0 5 = (wo (e3 1 2 0) (o_X4_request mm a1 a2 a3) mm).1 ∧ ((wo (e3 1 2 0) (o_X4_request mm a1 a2 a3) mm).1 = 0 → m4.2 9 0 0 0 = b.toInt64) := by
  refine st_gen H (fr_an cl_Tc ?_ (t_X4_request mm a1 a2 a3)) (fun m hm => face_request hm a1 a2 a3) ?_ ?_
  · intro v hv
    simp only [List.mem_cons, List.not_mem_nil, or_false, Option.some.injEq, reduceCtorEq] at hv
    rcases hv with rfl | rfl | rfl | rfl
    · exact (show (3 : Nat) ≤ 6 by decide)
    · exact trivial
    · exact trivial
    · exact trivial
  · intro v hv
    rcases List.mem_cons.mp hv with rfl | hv
    · exact Or.inl rfl
    · obtain ⟨z, _, rfl⟩ := List.mem_map.mp (show v ∈ ([a1, a2, a3] : List Int32).map vI from hv)
      exact trivial
  · intro x hx
    rcases pl_request mm a1 a2 a3 with ⟨b, h⟩ | h | h
    · rw [hx] at h; cases h
    · rw [hx] at h; cases h; decide
    · rw [hx] at h; cases h; decide
theorem pl_count (m : PM) (a1 : Int32) : (∃ b, o_X4_count m a1 = .inl (some (vI b))) ∨ o_X4_count m a1 = .inr 50 := by
  unfold o_X4_count
  repeat' split
  all_goals first | exact Or.inl ⟨_, rfl⟩ | exact Or.inr (rfl)
def hs_count : List (Nat × Nat × Int) := [(12, 50, 1)]
set_option maxRecDepth 100000 in
theorem wr_count : wrG ML_count (hhO 9 hs_count) = true := by decide +kernel
set_option maxRecDepth 100000 in
theorem si_count : siteB MX4_count = true := by decide +kernel
theorem mw_count (hw : WOK) (hdcs : ∀ o, ∀ q ∈ clk o, dcG q.2.2) (had : ad (10, 0, 0) = bs) {l : Launch} (hlt : l.stackTraces = false) (hdc : dcG ML_count) {m : PM} (hD0 : va_D Ba (wd A ad m)) (a1 : Int32) : vx_Met l (mY ML_count) (mWsW ML_count (hhO 9 hs_count)) (mRmX ML_count) (mPcX A D ad Ba bs L9 xs [vR 3 0 0, vI a1, vR 9 0 0] m) (Qc0 A D ad Ba L9 xs (some (vI (wo (e3 0 1 0) (o_X4_count m a1) m).1)) (wo (e3 0 1 0) (o_X4_count m a1) m).2) (fun _ _ _ => False) 1 6 Ba := by
  have hp := pl_count m a1
  have ht := t_X4_count m a1
  generalize o_X4_count m a1 = o9 at *
  refine met_wrap hw hdcs had hlt (M := ML_count) (M2 := MX4_count) (hs := hs_count) (pe := 9) (pcC := 4) (pcR := 16) (k := 4) (x := 61) (as := [vI a1]) (L0 := [some (vR 3 0 0), some (vI a1), some (vR 9 0 0), none]) wr_count hdc rfl rfl (by decide) (by decide) si_count (by decide) (by decide) rfl (show (3 : Nat) ≤ 4 by decide) rfl rfl (asc_mem (show asc (clk 6) 61 = some (1, MX4_count) from rfl)) rfl ?_ hD0 ht (by decide) (fun v hv => ?_) rfl (fun y hy => ?_)
  · intro u hu
    obtain ⟨z, _, rfl⟩ := List.mem_map.mp (show u ∈ ([a1] : List Int32).map vI from hu)
    rfl
  · rcases hp with ⟨b, rfl⟩ | rfl
    · cases hv; exact ⟨b, rfl, rfl, rfl, rfl⟩
    · cases hv
  · rcases hp with ⟨b, rfl⟩ | rfl
    · cases hy
    · cases hy; exact ⟨rfl, [], 12, 1, [], rfl, by decide, by decide, by decide, rfl⟩
theorem st_count {mm : PM} {s len K : Nat} (H : WR mm mm s len K) (a1 : Int32) : ∃ b m4 s2 l2, Rn MX5_count [vR 7 0 0, vI a1] (wo (e3 0 1 0) (o_X4_count mm a1) mm).2 (some (vI b)) m4 ∧ WR m4 m4 s2 l2 (K + 20) ∧ m4.1 7 0 0 5 = (wo (e3 0 1 0) (o_X4_count mm a1) mm).1 ∧ ((wo (e3 0 1 0) (o_X4_count mm a1) mm).1 = 0 → m4.2 9 0 0 0 = b.toInt64) := by
  refine st_gen H (fr_an cl_Tc ?_ (t_X4_count mm a1)) (fun m hm => face_count hm a1) ?_ ?_
  · intro v hv
    simp only [List.mem_cons, List.not_mem_nil, or_false, Option.some.injEq, reduceCtorEq] at hv
    rcases hv with rfl | rfl
    · exact (show (3 : Nat) ≤ 6 by decide)
    · exact trivial
  · intro v hv
    rcases List.mem_cons.mp hv with rfl | hv
    · exact Or.inl rfl
    · obtain ⟨z, _, rfl⟩ := List.mem_map.mp (show v ∈ ([a1] : List Int32).map vI from hv)
      exact trivial
  · intro x hx
    rcases pl_count mm a1 with ⟨b, h⟩ | h
    · rw [hx] at h; cases h
    · rw [hx] at h; cases h; decide
theorem pl_setting (m : PM) (a1 : Int32) : (∃ b, o_X4_setting m a1 = .inl (some (vI b))) ∨ o_X4_setting m a1 = .inr 40 := by
  unfold o_X4_setting
  repeat' split
  all_goals first | exact Or.inl ⟨_, rfl⟩ | exact Or.inr (rfl)
def hs_setting : List (Nat × Nat × Int) := [(12, 40, 1)]
set_option maxRecDepth 100000 in
theorem wr_setting : wrG ML_setting (hhO 9 hs_setting) = true := by decide +kernel
set_option maxRecDepth 100000 in
theorem si_setting : siteB MX4_setting = true := by decide +kernel
theorem mw_setting (hw : WOK) (hdcs : ∀ o, ∀ q ∈ clk o, dcG q.2.2) (had : ad (10, 0, 0) = bs) {l : Launch} (hlt : l.stackTraces = false) (hdc : dcG ML_setting) {m : PM} (hD0 : va_D Ba (wd A ad m)) (a1 : Int32) : vx_Met l (mY ML_setting) (mWsW ML_setting (hhO 9 hs_setting)) (mRmX ML_setting) (mPcX A D ad Ba bs L9 xs [vR 3 0 0, vI a1, vR 9 0 0] m) (Qc0 A D ad Ba L9 xs (some (vI (wo (e3 1 0 0) (o_X4_setting m a1) m).1)) (wo (e3 1 0 0) (o_X4_setting m a1) m).2) (fun _ _ _ => False) 1 6 Ba := by
  have hp := pl_setting m a1
  have ht := t_X4_setting m a1
  generalize o_X4_setting m a1 = o9 at *
  refine met_wrap hw hdcs had hlt (M := ML_setting) (M2 := MX4_setting) (hs := hs_setting) (pe := 9) (pcC := 4) (pcR := 16) (k := 4) (x := 64) (as := [vI a1]) (L0 := [some (vR 3 0 0), some (vI a1), some (vR 9 0 0), none]) wr_setting hdc rfl rfl (by decide) (by decide) si_setting (by decide) (by decide) rfl (show (3 : Nat) ≤ 4 by decide) rfl rfl (asc_mem (show asc (clk 6) 64 = some (1, MX4_setting) from rfl)) rfl ?_ hD0 ht (by decide) (fun v hv => ?_) rfl (fun y hy => ?_)
  · intro u hu
    obtain ⟨z, _, rfl⟩ := List.mem_map.mp (show u ∈ ([a1] : List Int32).map vI from hu)
    rfl
  · rcases hp with ⟨b, rfl⟩ | rfl
    · cases hv; exact ⟨b, rfl, rfl, rfl, rfl⟩
    · cases hv
  · rcases hp with ⟨b, rfl⟩ | rfl
    · cases hy
    · cases hy; exact ⟨rfl, [], 12, 1, [], rfl, by decide, by decide, by decide, rfl⟩
theorem st_setting {mm : PM} {s len K : Nat} (H : WR mm mm s len K) (a1 : Int32) : ∃ b m4 s2 l2, Rn MX5_setting [vR 7 0 0, vI a1] (wo (e3 1 0 0) (o_X4_setting mm a1) mm).2 (some (vI b)) m4 ∧ WR m4 m4 s2 l2 (K + 20) ∧ m4.1 7 0 0 5 = (wo (e3 1 0 0) (o_X4_setting mm a1) mm).1 ∧ ((wo (e3 1 0 0) (o_X4_setting mm a1) mm).1 = 0 → m4.2 9 0 0 0 = b.toInt64) := by
  refine st_gen H (fr_an cl_Tc ?_ (t_X4_setting mm a1)) (fun m hm => face_setting hm a1) ?_ ?_
  · intro v hv
    simp only [List.mem_cons, List.not_mem_nil, or_false, Option.some.injEq, reduceCtorEq] at hv
    rcases hv with rfl | rfl
    · exact (show (3 : Nat) ≤ 6 by decide)
    · exact trivial
  · intro v hv
    rcases List.mem_cons.mp hv with rfl | hv
    · exact Or.inl rfl
    · obtain ⟨z, _, rfl⟩ := List.mem_map.mp (show v ∈ ([a1] : List Int32).map vI from hv)
      exact trivial
  · intro x hx
    rcases pl_setting mm a1 with ⟨b, h⟩ | h
    · rw [hx] at h; cases h
    · rw [hx] at h; cases h; decide
theorem pl_ifAsked (m : PM) (a1 : Int32) (a2 : Int32) (a3 : Int32) (a4 : Int32) : (∃ b, o_X4_ifAsked m a1 a2 a3 a4 = .inl (some (vI b))) ∨ o_X4_ifAsked m a1 a2 a3 a4 = .inr 40 ∨ o_X4_ifAsked m a1 a2 a3 a4 = .inr 50 := by
  unfold o_X4_ifAsked
  repeat' split
  all_goals first | exact Or.inl ⟨_, rfl⟩ | exact Or.inr (Or.inl rfl) | exact Or.inr (Or.inr (rfl))
def hs_ifAsked : List (Nat × Nat × Int) := [(17, 40, 1), (21, 50, 2)]
set_option maxRecDepth 100000 in
theorem wr_ifAsked : wrG ML_ifAsked (hhO 14 hs_ifAsked) = true := by decide +kernel
set_option maxRecDepth 100000 in
theorem si_ifAsked : siteB MX4_ifAsked = true := by decide +kernel
theorem mw_ifAsked (hw : WOK) (hdcs : ∀ o, ∀ q ∈ clk o, dcG q.2.2) (had : ad (10, 0, 0) = bs) {l : Launch} (hlt : l.stackTraces = false) (hdc : dcG ML_ifAsked) {m : PM} (hD0 : va_D Ba (wd A ad m)) (a1 : Int32) (a2 : Int32) (a3 : Int32) (a4 : Int32) : vx_Met l (mY ML_ifAsked) (mWsW ML_ifAsked (hhO 14 hs_ifAsked)) (mRmX ML_ifAsked) (mPcX A D ad Ba bs L9 xs [vR 3 0 0, vI a1, vI a2, vI a3, vI a4, vR 9 0 0] m) (Qc0 A D ad Ba L9 xs (some (vI (wo (e3 1 2 0) (o_X4_ifAsked m a1 a2 a3 a4) (w_X4_ifAsked m a1 a2 a3 a4)).1)) (wo (e3 1 2 0) (o_X4_ifAsked m a1 a2 a3 a4) (w_X4_ifAsked m a1 a2 a3 a4)).2) (fun _ _ _ => False) 1 6 Ba := by
  have hp := pl_ifAsked m a1 a2 a3 a4
  have ht := t_X4_ifAsked m a1 a2 a3 a4
  generalize w_X4_ifAsked m a1 a2 a3 a4 = mm1 at *
  generalize o_X4_ifAsked m a1 a2 a3 a4 = o9 at *
  refine met_wrap hw hdcs had hlt (M := ML_ifAsked) (M2 := MX4_ifAsked) (hs := hs_ifAsked) (pe := 14) (pcC := 9) (pcR := 26) (k := 7) (x := 67) (as := [vI a1, vI a2, vI a3, vI a4]) (L0 := [some (vR 3 0 0), some (vI a1), some (vI a2), some (vI a3), some (vI a4), some (vR 9 0 0), none]) wr_ifAsked hdc rfl rfl (by decide) (by decide) si_ifAsked (by decide) (by decide) rfl (show (6 : Nat) ≤ 7 by decide) rfl rfl (asc_mem (show asc (clk 6) 67 = some (1, MX4_ifAsked) from rfl)) rfl ?_ hD0 ht (by decide) (fun v hv => ?_) rfl (fun y hy => ?_)
  · intro u hu
    obtain ⟨z, _, rfl⟩ := List.mem_map.mp (show u ∈ ([a1, a2, a3, a4] : List Int32).map vI from hu)
    rfl
  · rcases hp with ⟨b, rfl⟩ | rfl | rfl
    · cases hv; exact ⟨b, rfl, rfl, rfl, rfl⟩
    · cases hv
    · cases hv
  · rcases hp with ⟨b, rfl⟩ | rfl | rfl
    · cases hy
    · cases hy; exact ⟨rfl, [], 17, 1, [(21, 50, 2)], rfl, by decide, by decide, by decide, rfl⟩
    · cases hy; exact ⟨rfl, [(17, 40, 1)], 21, 2, [], rfl, by decide, by decide, by decide, rfl⟩
theorem st_ifAsked {mm : PM} {s len K : Nat} (H : WR mm mm s len K) (a1 : Int32) (a2 : Int32) (a3 : Int32) (a4 : Int32) : ∃ b m4 s2 l2, Rn MX5_ifAsked [vR 7 0 0, vI a1, vI a2, vI a3, vI a4] (wo (e3 1 2 0) (o_X4_ifAsked mm a1 a2 a3 a4) (w_X4_ifAsked mm a1 a2 a3 a4)).2 (some (vI b)) m4 ∧ WR m4 m4 s2 l2 (K + 20) ∧ m4.1 7 0 0 5 = (wo (e3 1 2 0) (o_X4_ifAsked mm a1 a2 a3 a4) (w_X4_ifAsked mm a1 a2 a3 a4)).1 ∧ ((wo (e3 1 2 0) (o_X4_ifAsked mm a1 a2 a3 a4) (w_X4_ifAsked mm a1 a2 a3 a4)).1 = 0 → m4.2 9 0 0 0 = b.toInt64) := by
  refine st_gen H (fr_an cl_Tc ?_ (t_X4_ifAsked mm a1 a2 a3 a4)) (fun m hm => face_ifAsked hm a1 a2 a3 a4) ?_ ?_
  · intro v hv
    simp only [List.mem_cons, List.not_mem_nil, or_false, Option.some.injEq, reduceCtorEq] at hv
    rcases hv with rfl | rfl | rfl | rfl | rfl
    · exact (show (3 : Nat) ≤ 6 by decide)
    · exact trivial
    · exact trivial
    · exact trivial
    · exact trivial
  · intro v hv
    rcases List.mem_cons.mp hv with rfl | hv
    · exact Or.inl rfl
    · obtain ⟨z, _, rfl⟩ := List.mem_map.mp (show v ∈ ([a1, a2, a3, a4] : List Int32).map vI from hv)
      exact trivial
  · intro x hx
    rcases pl_ifAsked mm a1 a2 a3 a4 with ⟨b, h⟩ | h | h
    · rw [hx] at h; cases h
    · rw [hx] at h; cases h; decide
    · rw [hx] at h; cases h; decide
theorem pl_takers (m : PM) (a1 : Int32) (a2 : Int32) : (∃ b, o_X4_takers m a1 a2 = .inl (some (vI b))) ∨ o_X4_takers m a1 a2 = .inr 40 := by
  unfold o_X4_takers
  repeat' split
  all_goals first | exact Or.inl ⟨_, rfl⟩ | exact Or.inr (rfl)
def hs_takers : List (Nat × Nat × Int) := [(13, 40, 1)]
set_option maxRecDepth 100000 in
theorem wr_takers : wrG ML_takers (hhO 10 hs_takers) = true := by decide +kernel
set_option maxRecDepth 100000 in
theorem si_takers : siteB MX4_takers = true := by decide +kernel
theorem mw_takers (hw : WOK) (hdcs : ∀ o, ∀ q ∈ clk o, dcG q.2.2) (had : ad (10, 0, 0) = bs) {l : Launch} (hlt : l.stackTraces = false) (hdc : dcG ML_takers) {m : PM} (hD0 : va_D Ba (wd A ad m)) (a1 : Int32) (a2 : Int32) : vx_Met l (mY ML_takers) (mWsW ML_takers (hhO 10 hs_takers)) (mRmX ML_takers) (mPcX A D ad Ba bs L9 xs [vR 3 0 0, vI a1, vI a2, vR 9 0 0] m) (Qc0 A D ad Ba L9 xs (some (vI (wo (e3 1 0 0) (o_X4_takers m a1 a2) m).1)) (wo (e3 1 0 0) (o_X4_takers m a1 a2) m).2) (fun _ _ _ => False) 1 6 Ba := by
  have hp := pl_takers m a1 a2
  have ht := t_X4_takers m a1 a2
  generalize o_X4_takers m a1 a2 = o9 at *
  refine met_wrap hw hdcs had hlt (M := ML_takers) (M2 := MX4_takers) (hs := hs_takers) (pe := 10) (pcC := 5) (pcR := 18) (k := 5) (x := 71) (as := [vI a1, vI a2]) (L0 := [some (vR 3 0 0), some (vI a1), some (vI a2), some (vR 9 0 0), none]) wr_takers hdc rfl rfl (by decide) (by decide) si_takers (by decide) (by decide) rfl (show (4 : Nat) ≤ 5 by decide) rfl rfl (asc_mem (show asc (clk 6) 71 = some (1, MX4_takers) from rfl)) rfl ?_ hD0 ht (by decide) (fun v hv => ?_) rfl (fun y hy => ?_)
  · intro u hu
    obtain ⟨z, _, rfl⟩ := List.mem_map.mp (show u ∈ ([a1, a2] : List Int32).map vI from hu)
    rfl
  · rcases hp with ⟨b, rfl⟩ | rfl
    · cases hv; exact ⟨b, rfl, rfl, rfl, rfl⟩
    · cases hv
  · rcases hp with ⟨b, rfl⟩ | rfl
    · cases hy
    · cases hy; exact ⟨rfl, [], 13, 1, [], rfl, by decide, by decide, by decide, rfl⟩
theorem st_takers {mm : PM} {s len K : Nat} (H : WR mm mm s len K) (a1 : Int32) (a2 : Int32) : ∃ b m4 s2 l2, Rn MX5_takers [vR 7 0 0, vI a1, vI a2] (wo (e3 1 0 0) (o_X4_takers mm a1 a2) mm).2 (some (vI b)) m4 ∧ WR m4 m4 s2 l2 (K + 20) ∧ m4.1 7 0 0 5 = (wo (e3 1 0 0) (o_X4_takers mm a1 a2) mm).1 ∧ ((wo (e3 1 0 0) (o_X4_takers mm a1 a2) mm).1 = 0 → m4.2 9 0 0 0 = b.toInt64) := by
  refine st_gen H (fr_an cl_Tc ?_ (t_X4_takers mm a1 a2)) (fun m hm => face_takers hm a1 a2) ?_ ?_
  · intro v hv
    simp only [List.mem_cons, List.not_mem_nil, or_false, Option.some.injEq, reduceCtorEq] at hv
    rcases hv with rfl | rfl | rfl
    · exact (show (3 : Nat) ≤ 6 by decide)
    · exact trivial
    · exact trivial
  · intro v hv
    rcases List.mem_cons.mp hv with rfl | hv
    · exact Or.inl rfl
    · obtain ⟨z, _, rfl⟩ := List.mem_map.mp (show v ∈ ([a1, a2] : List Int32).map vI from hv)
      exact trivial
  · intro x hx
    rcases pl_takers mm a1 a2 with ⟨b, h⟩ | h
    · rw [hx] at h; cases h
    · rw [hx] at h; cases h; decide
theorem pl_burnsIn (m : PM) (a1 : Int32) : (∃ b, o_X4_burnsIn m a1 = .inl (some (vI b))) ∨ o_X4_burnsIn m a1 = .inr 40 := by
  unfold o_X4_burnsIn
  repeat' split
  all_goals first | exact Or.inl ⟨_, rfl⟩ | exact Or.inr (rfl)
def hs_burnsIn : List (Nat × Nat × Int) := [(12, 40, 1)]
set_option maxRecDepth 100000 in
theorem wr_burnsIn : wrG ML_burnsIn (hhO 9 hs_burnsIn) = true := by decide +kernel
set_option maxRecDepth 100000 in
theorem si_burnsIn : siteB MX4_burnsIn = true := by decide +kernel
theorem mw_burnsIn (hw : WOK) (hdcs : ∀ o, ∀ q ∈ clk o, dcG q.2.2) (had : ad (10, 0, 0) = bs) {l : Launch} (hlt : l.stackTraces = false) (hdc : dcG ML_burnsIn) {m : PM} (hD0 : va_D Ba (wd A ad m)) (a1 : Int32) : vx_Met l (mY ML_burnsIn) (mWsW ML_burnsIn (hhO 9 hs_burnsIn)) (mRmX ML_burnsIn) (mPcX A D ad Ba bs L9 xs [vR 3 0 0, vI a1, vR 9 0 0] m) (Qc0 A D ad Ba L9 xs (some (vI (wo (e3 1 0 0) (o_X4_burnsIn m a1) m).1)) (wo (e3 1 0 0) (o_X4_burnsIn m a1) m).2) (fun _ _ _ => False) 1 6 Ba := by
  have hp := pl_burnsIn m a1
  have ht := t_X4_burnsIn m a1
  generalize o_X4_burnsIn m a1 = o9 at *
  refine met_wrap hw hdcs had hlt (M := ML_burnsIn) (M2 := MX4_burnsIn) (hs := hs_burnsIn) (pe := 9) (pcC := 4) (pcR := 16) (k := 4) (x := 74) (as := [vI a1]) (L0 := [some (vR 3 0 0), some (vI a1), some (vR 9 0 0), none]) wr_burnsIn hdc rfl rfl (by decide) (by decide) si_burnsIn (by decide) (by decide) rfl (show (3 : Nat) ≤ 4 by decide) rfl rfl (asc_mem (show asc (clk 6) 74 = some (1, MX4_burnsIn) from rfl)) rfl ?_ hD0 ht (by decide) (fun v hv => ?_) rfl (fun y hy => ?_)
  · intro u hu
    obtain ⟨z, _, rfl⟩ := List.mem_map.mp (show u ∈ ([a1] : List Int32).map vI from hu)
    rfl
  · rcases hp with ⟨b, rfl⟩ | rfl
    · cases hv; exact ⟨b, rfl, rfl, rfl, rfl⟩
    · cases hv
  · rcases hp with ⟨b, rfl⟩ | rfl
    · cases hy
    · cases hy; exact ⟨rfl, [], 12, 1, [], rfl, by decide, by decide, by decide, rfl⟩
theorem st_burnsIn {mm : PM} {s len K : Nat} (H : WR mm mm s len K) (a1 : Int32) : ∃ b m4 s2 l2, Rn MX5_burnsIn [vR 7 0 0, vI a1] (wo (e3 1 0 0) (o_X4_burnsIn mm a1) mm).2 (some (vI b)) m4 ∧ WR m4 m4 s2 l2 (K + 20) ∧ m4.1 7 0 0 5 = (wo (e3 1 0 0) (o_X4_burnsIn mm a1) mm).1 ∧ ((wo (e3 1 0 0) (o_X4_burnsIn mm a1) mm).1 = 0 → m4.2 9 0 0 0 = b.toInt64) := by
  refine st_gen H (fr_an cl_Tc ?_ (t_X4_burnsIn mm a1)) (fun m hm => face_burnsIn hm a1) ?_ ?_
  · intro v hv
    simp only [List.mem_cons, List.not_mem_nil, or_false, Option.some.injEq, reduceCtorEq] at hv
    rcases hv with rfl | rfl
    · exact (show (3 : Nat) ≤ 6 by decide)
    · exact trivial
  · intro v hv
    rcases List.mem_cons.mp hv with rfl | hv
    · exact Or.inl rfl
    · obtain ⟨z, _, rfl⟩ := List.mem_map.mp (show v ∈ ([a1] : List Int32).map vI from hv)
      exact trivial
  · intro x hx
    rcases pl_burnsIn mm a1 with ⟨b, h⟩ | h
    · rw [hx] at h; cases h
    · rw [hx] at h; cases h; decide
theorem pl_waitsFor (m : PM) (a1 : Int32) : (∃ b, o_X4_waitsFor m a1 = .inl (some (vI b))) ∨ o_X4_waitsFor m a1 = .inr 40 := by
  unfold o_X4_waitsFor
  repeat' split
  all_goals first | exact Or.inl ⟨_, rfl⟩ | exact Or.inr (rfl)
def hs_waitsFor : List (Nat × Nat × Int) := [(12, 40, 1)]
set_option maxRecDepth 100000 in
theorem wr_waitsFor : wrG ML_waitsFor (hhO 9 hs_waitsFor) = true := by decide +kernel
set_option maxRecDepth 100000 in
theorem si_waitsFor : siteB MX4_waitsFor = true := by decide +kernel
theorem mw_waitsFor (hw : WOK) (hdcs : ∀ o, ∀ q ∈ clk o, dcG q.2.2) (had : ad (10, 0, 0) = bs) {l : Launch} (hlt : l.stackTraces = false) (hdc : dcG ML_waitsFor) {m : PM} (hD0 : va_D Ba (wd A ad m)) (a1 : Int32) : vx_Met l (mY ML_waitsFor) (mWsW ML_waitsFor (hhO 9 hs_waitsFor)) (mRmX ML_waitsFor) (mPcX A D ad Ba bs L9 xs [vR 3 0 0, vI a1, vR 9 0 0] m) (Qc0 A D ad Ba L9 xs (some (vI (wo (e3 1 0 0) (o_X4_waitsFor m a1) m).1)) (wo (e3 1 0 0) (o_X4_waitsFor m a1) m).2) (fun _ _ _ => False) 1 6 Ba := by
  have hp := pl_waitsFor m a1
  have ht := t_X4_waitsFor m a1
  generalize o_X4_waitsFor m a1 = o9 at *
  refine met_wrap hw hdcs had hlt (M := ML_waitsFor) (M2 := MX4_waitsFor) (hs := hs_waitsFor) (pe := 9) (pcC := 4) (pcR := 16) (k := 4) (x := 77) (as := [vI a1]) (L0 := [some (vR 3 0 0), some (vI a1), some (vR 9 0 0), none]) wr_waitsFor hdc rfl rfl (by decide) (by decide) si_waitsFor (by decide) (by decide) rfl (show (3 : Nat) ≤ 4 by decide) rfl rfl (asc_mem (show asc (clk 6) 77 = some (1, MX4_waitsFor) from rfl)) rfl ?_ hD0 ht (by decide) (fun v hv => ?_) rfl (fun y hy => ?_)
  · intro u hu
    obtain ⟨z, _, rfl⟩ := List.mem_map.mp (show u ∈ ([a1] : List Int32).map vI from hu)
    rfl
  · rcases hp with ⟨b, rfl⟩ | rfl
    · cases hv; exact ⟨b, rfl, rfl, rfl, rfl⟩
    · cases hv
  · rcases hp with ⟨b, rfl⟩ | rfl
    · cases hy
    · cases hy; exact ⟨rfl, [], 12, 1, [], rfl, by decide, by decide, by decide, rfl⟩
theorem st_waitsFor {mm : PM} {s len K : Nat} (H : WR mm mm s len K) (a1 : Int32) : ∃ b m4 s2 l2, Rn MX5_waitsFor [vR 7 0 0, vI a1] (wo (e3 1 0 0) (o_X4_waitsFor mm a1) mm).2 (some (vI b)) m4 ∧ WR m4 m4 s2 l2 (K + 20) ∧ m4.1 7 0 0 5 = (wo (e3 1 0 0) (o_X4_waitsFor mm a1) mm).1 ∧ ((wo (e3 1 0 0) (o_X4_waitsFor mm a1) mm).1 = 0 → m4.2 9 0 0 0 = b.toInt64) := by
  refine st_gen H (fr_an cl_Tc ?_ (t_X4_waitsFor mm a1)) (fun m hm => face_waitsFor hm a1) ?_ ?_
  · intro v hv
    simp only [List.mem_cons, List.not_mem_nil, or_false, Option.some.injEq, reduceCtorEq] at hv
    rcases hv with rfl | rfl
    · exact (show (3 : Nat) ≤ 6 by decide)
    · exact trivial
  · intro v hv
    rcases List.mem_cons.mp hv with rfl | hv
    · exact Or.inl rfl
    · obtain ⟨z, _, rfl⟩ := List.mem_map.mp (show v ∈ ([a1] : List Int32).map vI from hv)
      exact trivial
  · intro x hx
    rcases pl_waitsFor mm a1 with ⟨b, h⟩ | h
    · rw [hx] at h; cases h
    · rw [hx] at h; cases h; decide
end
