/-! reach and waitsOver agree -/
theorem rd_of {D : Nat → Int32} (b : Int32 → Nat → Int32 → Int32) (H1 : ∀ s o t, o < 8 → sub t (b s o t)) (H2 : ∀ s o t, o < 8 → sub s t → bit s o = true → sub (D o) (b s o t)) (H3 : ∀ s o t S, o < 8 → clsd D S → sub s S → sub t S → sub (b s o t) S) (H4 : ∀ s o t, o < 8 → low (D o) → low t → low (b s o t)) : RD D (fun s => lp (b s) 8 0 s) := by
  intro s
  refine ⟨?_, fun o ho hb => ?_, fun S hS hs => ?_, fun hD hs => ?_⟩
  · exact lp_inv (b s) 8 (fun _ t => sub s t) (fun o t ho ht => sub_trans ht (H1 s o t ho)) 8 0 s rfl (sub_refl s)
  · have k := lp_inv (b s) 8 (fun j t => sub s t ∧ (o < j → sub (D o) t)) (fun j t hj ht => ⟨sub_trans ht.1 (H1 s j t hj), fun hlt => ?_⟩) 8 0 s rfl ⟨sub_refl s, fun q => absurd q (by omega)⟩
    · exact k.2 ho
    · by_cases c : o = j
      · subst c; exact H2 s o t hj ht.1 hb
      · exact sub_trans (ht.2 (by omega)) (H1 s j t hj)
  · exact lp_inv (b s) 8 (fun _ t => sub t S) (fun o t ho ht => H3 s o t S ho hS hs ht) 8 0 s rfl hs
  · exact lp_inv (b s) 8 (fun _ t => low t) (fun o t ho ht => H4 s o t ho (hD o ho) ht) 8 0 s rfl hs
theorem low_or {x y : Int32} (h : low x) (h2 : low y) : low (x ||| y) := fun i hi q => by
  rw [bit_or, Bool.or_eq_true] at q
  exact q.elim (h i hi) (h2 i hi)
/-- the model's round -/
def rdM (m : PM) (_ : Int32) (o : Nat) (t : Int32) : Int32 := t ||| (if ¬ ((t >>> ((nI o) &&& (31 : Int32))) &&& (1 : Int32)) = (1 : Int32) then (0 : Int32) else (v_X5_waitsNow m (nI o)))
theorem rdM_if (m : PM) (s : Int32) (o : Nat) (t : Int32) (ho : o < 8) : rdM m s o t = if bit t o = true then t ||| v_X5_waitsNow m (nI o) else t := by
  unfold rdM
  by_cases c : bit t o = true
  · rw [if_pos c, if_neg (show ¬ ¬ _ from fun q => q ((bit_q1 (by omega)).mpr c))]
  · rw [if_neg c, if_pos (show ¬ _ from fun q => c ((bit_q1 (by omega)).mp q)), Int32.or_zero]
theorem rd_M (m : PM) : RD (fun o => v_X5_waitsNow m (nI o)) (fun s => lp (rdM m s) 8 0 s) := by
  refine rd_of (rdM m) (fun s o t ho => ?_) (fun s o t ho hs hb => ?_) (fun s o t S ho hS _ ht => ?_) (fun s o t ho hD ht => ?_)
  · rw [rdM_if m s o t ho]
    split
    · exact sub_or1 _ _
    · exact sub_refl _
  · rw [rdM_if m s o t ho, if_pos (hs o (by omega) hb)]
    exact sub_or2 _ _
  · rw [rdM_if m s o t ho]
    by_cases c : bit t o = true
    · rw [if_pos c]
      exact sub_or ht (hS o ho (ht o (by omega) c))
    · rw [if_neg c]; exact ht
  · rw [rdM_if m s o t ho]
    split
    · exact low_or ht hD
    · exact ht
/-- the class's round -/
def rdC (M : PM) (g : Nat) (s : Int32) (o : Nat) (t : Int32) : Int32 := if (v_X4_has M s (nI o)) = 0 then t else (t ||| (v_X2_direct M g (nI o)))
theorem has_bit (M : PM) (s : Int32) {o : Nat} (ho : o < 32) : v_X4_has M s (nI o) = 0 ↔ ¬ bit s o = true := by
  unfold v_X4_has
  rw [bit_q ho]
  cases bit s o
  · simp
  · simp
theorem rd_C (M : PM) (g : Nat) : RD (fun o => v_X2_direct M g (nI o)) (fun s => lp (rdC M g s) 8 0 s) := by
  have e : ∀ s o t, o < 8 → rdC M g s o t = if bit s o = true then t ||| v_X2_direct M g (nI o) else t := by
    intro s o t ho
    unfold rdC
    by_cases c : bit s o = true
    · rw [if_pos c, if_neg (fun q => (has_bit M s (show o < 32 by omega)).mp q c)]
    · rw [if_neg c, if_pos ((has_bit M s (show o < 32 by omega)).mpr c)]
  refine rd_of (rdC M g) (fun s o t ho => ?_) (fun s o t ho hs hb => ?_) (fun s o t S ho hS hs ht => ?_) (fun s o t ho hD ht => ?_)
  · rw [e s o t ho]
    split
    · exact sub_or1 _ _
    · exact sub_refl _
  · rw [e s o t ho, if_pos hb]
    exact sub_or2 _ _
  · rw [e s o t ho]
    by_cases c : bit s o = true
    · rw [if_pos c]
      exact sub_or ht (hS o ho (hs o (by omega) c))
    · rw [if_neg c]; exact ht
  · rw [e s o t ho]
    split
    · exact low_or ht hD
    · exact ht
section
variable {M m : PM} {g : Nat}
theorem low_direct (hR : RG M m g) {h : Nat} (hh : h < 8) : low (v_X5_waitsNow m (nI h)) := by
  intro i hi q
  unfold v_X5_waitsNow at q
  by_cases c : v_X5_rowOf m (nI h) = -1
  · rw [if_pos c, bit_0] at q; exact absurd q (by decide)
  · rw [if_neg c] at q
    obtain ⟨e1, hr, hp0⟩ := row_N c
    have hQ := ql_of (rq_qa hR.2)
    obtain ⟨e2, hp, hp2, _⟩ := plc_N hQ hr hp0
    have qv := rq_qa hR.2 _ hr
    rw [bit_who m _ _ (fun p hp3 => qv.2.2 p (by omega)) _ 0 _ (Nat.add_zero _) i hi] at q
    rcases q with q | ⟨p, _, hp3, e⟩
    · rw [bit_clash m _ _ _ i hi, Bool.and_eq_true, decide_eq_true_eq] at q
      exact q.1
    · obtain ⟨h2, a, b⟩ := qv.2.2 p (by omega)
      rw [e] at b
      have := (nI_eq (by omega) (by omega)).mp b
      omega
theorem reach_R (hR : RG M m g) {h : Nat} (hh : h < 8) : v_X2_reach M g (nI h) = v_X5_waitsOver m (nI h) := by
  have eD : ∀ o, o < 8 → v_X2_direct M g (nI o) = v_X5_waitsNow m (nI o) := fun o ho => direct_R hR ho
  have hl := low_direct hR hh
  have eM : v_X5_waitsOver m (nI h) = lp (fun _ t => lp (rdM m t) 8 0 t) 8 0 (v_X5_waitsNow m (nI h)) := rfl
  have kM := rd_lp (rd_M m) (fun o ho => low_direct hR ho) (v_X5_waitsNow m (nI h)) hl
  have kC := rd_lq (rd_C M g) (fun o ho => by show low (v_X2_direct M g (nI o)); rw [eD o ho]; exact low_direct hR ho) (b_X2_reach_1 M g (nI h)) (fun j t => rfl) (v_X2_direct M g (nI h)) 8 0 (v_X2_direct M g (nI h)) rfl (clsd_or _ _) (sub_refl _) (by rw [eD h hh]; exact hl) (fun _ _ q => q)
  have cc : ∀ S, clsd (fun o => v_X5_waitsNow m (nI o)) S ↔ clsd (fun o => v_X2_direct M g (nI o)) S := by
    intro S
    constructor
    · intro q o ho hb
      show sub (v_X2_direct M g (nI o)) S
      rw [eD o ho]; exact q o ho hb
    · intro q o ho hb
      show sub (v_X5_waitsNow m (nI o)) S
      rw [← eD o ho]; exact q o ho hb
  rw [eM]
  unfold v_X2_reach
  refine sub_anti ?_ ?_
  · exact kC.2.2.2 _ ((cc _).mp kM.1) (by rw [eD h hh]; exact kM.2.1)
  · exact kM.2.2.2 _ ((cc _).mpr kC.1) (by rw [← eD h hh]; exact kC.2.1)
end
