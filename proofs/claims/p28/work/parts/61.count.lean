/-! requests, and how many hands stand in a row -/
section
variable {M m : PM} {g : Nat}
theorem request_R (hR : RG M m g) {r p : Nat} (hr : r < 12) (hp : p < 8) (w : Int32) : v_X2_requestPart M g (nI r) (nI p) w = v_X5_requestNow m r p w := by
  obtain ⟨n, hn, en, kn⟩ := hR.2.1 r hr
  have eq : qn m r = n := by unfold qn; rw [en]; exact nI_clamp (by omega)
  unfold v_X2_requestPart v_X5_requestNow
  rw [handAt_R hR hr hp, eq, show m.1 8 0 0 (125 + r) = nI n from en]
  by_cases c : p < n
  · obtain ⟨h, hh, f1, f2, f3, f4, f5⟩ := kn p c
    rw [if_pos c, if_pos (nI_lt c (by omega)), f1, if_neg (nI_nm1 (by omega)), at_in (k := 2) (show h < 8 from hh), f4]
    unfold v_X5_modeAt v_X5_whoAt
    rw [show m.1 8 0 0 (137 + 8 * r + p) = nI h from f1]
    rfl
  · rw [if_neg c, if_pos rfl, if_neg (nI_nlt (by omega) (by omega))]
end
/-- how many of the first N hands do -/
def cntP (P : Nat → Bool) : Nat → Nat
  | 0 => 0
  | N + 1 => cntP P N + (if P N then 1 else 0)
theorem cntP_0 (P : Nat → Bool) : ∀ N, (∀ h, h < N → P h = false) → cntP P N = 0 := by
  intro N
  induction N with
  | zero => intro _; rfl
  | succ N ih =>
    intro h
    unfold cntP
    rw [ih (fun q hq => h q (by omega)), h N (by omega)]
    rfl
theorem cntP_rm (P : Nat → Bool) (x : Nat) (hx : P x = true) : ∀ N, cntP P N = cntP (fun h => P h && !decide (h = x)) N + (if x < N then 1 else 0) := by
  intro N
  induction N with
  | zero => rfl
  | succ N ih =>
    unfold cntP
    rw [ih]
    by_cases c : N = x
    · subst c
      rw [if_neg (Nat.lt_irrefl _), if_pos (Nat.lt_succ_self _), hx]
      simp
    · by_cases c2 : x < N
      · rw [if_pos c2, if_pos (show x < N + 1 by omega)]
        simp [c]
        omega
      · rw [if_neg c2, if_neg (show ¬ x < N + 1 by omega)]
        simp [c]
/-- as many hands as places -/
theorem cntP_n (N : Nat) : ∀ (n : Nat) (P : Nat → Bool) (w : Nat → Nat), (∀ p, p < n → w p < N ∧ P (w p) = true) → (∀ p q, p < n → q < n → w p = w q → p = q) → (∀ h, h < N → P h = true → ∃ p, p < n ∧ w p = h) → cntP P N = n := by
  intro n
  induction n with
  | zero =>
    intro P w _ _ h3
    refine cntP_0 P N (fun h hh => ?_)
    cases c : P h
    · rfl
    · obtain ⟨p, hp, _⟩ := h3 h hh c
      omega
  | succ n ih =>
    intro P w h1 h2 h3
    have a := h1 n (by omega)
    rw [cntP_rm P (w n) a.2 N, if_pos a.1]
    have k := ih (fun h => P h && !decide (h = w n)) w (fun p hp => ⟨(h1 p (by omega)).1, by
      have : ¬ w p = w n := fun e => by have := h2 p n (by omega) (by omega) e; omega
      simp [(h1 p (by omega)).2, this]⟩) (fun p q hp hq e => h2 p q (by omega) (by omega) e) (fun h hh hP => by
      rw [Bool.and_eq_true] at hP
      obtain ⟨p, hp, e⟩ := h3 h hh hP.1
      refine ⟨p, ?_, e⟩
      by_cases c : p = n
      · subst c
        have := hP.2
        rw [e] at this
        simp at this
      · omega)
    rw [k]

