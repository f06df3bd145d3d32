/-! one step of both sides, over one memory -/
section
theorem wr_mm {M m m2 : PM} {s len K : Nat} (H : WR M m s len K) (e : ∀ t k g i, t = 7 ∨ t = 8 → m2.1 t k g i = m.1 t k g i) : WR M m2 s len K := wr_m H (fun i _ => e 8 0 0 i (Or.inr rfl)) (fun i _ => e 8 1 0 i (Or.inr rfl)) (e 7 0 0 1 (Or.inl rfl)) (fun i _ => e 8 2 0 i (Or.inr rfl)) (e 7 0 0 3 (Or.inl rfl))
theorem wr_MM {M M2 m : PM} {s len K : Nat} (H : WR M m s len K) (e : ∀ t k g i, t ≤ 6 → M2.1 t k g i = M.1 t k g i) : WR M2 m s len K := by
  have ec : ∀ g, clT M2 g = clT M g := fun g => by
    funext k i
    unfold clT
    split <;> exact e _ _ _ _ (by omega)
  obtain ⟨a1, a2, a3, a4, ⟨nx, b1, b2, b3⟩, a5, a6, a7, a8⟩ := H
  refine ⟨by rw [ec]; exact a1, a2, a3, by rw [e _ _ _ _ (by omega)]; exact a4, ⟨nx, b1, by rw [e _ _ _ _ (by omega)]; exact b2, fun j hj => by rw [ec]; exact b3 j hj⟩, a5, by rw [e _ _ _ _ (by omega)]; exact a6, a7, fun i hi => ?_⟩
  obtain ⟨k, k1, k2, k3, k4⟩ := a8 i hi
  exact ⟨k, k1, k2, k3, by rw [e _ _ _ _ (by omega)]; exact k4⟩
/-- what a wrapper makes of an outcome -/
def wo (e : Nat → Int32) (o : OC) (m2 : PM) : Int32 × PM := match o with
  | .inl (some (.inl b)) => (0, wL m2 9 0 0 0 b.toInt64)
  | .inl _ => (0, m2)
  | .inr x => (e x, m2)
theorem wo_1 (e : Nat → Int32) (o : OC) (m2 : PM) : (wo e o m2).2.1 = m2.1 := by
  unfold wo
  split <;> rfl
theorem wo_2 (e : Nat → Int32) (o : OC) (m2 : PM) (t k g i : Nat) (h : ¬ t = 9) : (wo e o m2).2.2 t k g i = m2.2 t k g i := by
  unfold wo
  split
  · exact if_neg (fun q => h q.1)
  · rfl
  · rfl
theorem st_gen {mm mm1 : PM} {s len K : Nat} {o : OC} {e : Nat → Int32} {M5 : MI} {as : List PV} (H : WR mm mm s len K) (hc : FRk Tc mm mm1)
    (face : ∀ m, WR mm m s len K → ∃ b m2 s2 l2, Rn M5 as m (some (vI b)) m2 ∧ WR mm1 m2 s2 l2 (K + 20) ∧ AG e o (m2.1 7 0 0 5) b) (has : RSk Tm as) (hpl : ∀ x, o = .inr x → ¬ e x = 0) :
    ∃ b m4 s2 l2, Rn M5 as (wo e o mm1).2 (some (vI b)) m4 ∧ WR m4 m4 s2 l2 (K + 20) ∧ m4.1 7 0 0 5 = (wo e o mm1).1 ∧ ((wo e o mm1).1 = 0 → m4.2 9 0 0 0 = b.toInt64) := by
  have hc8 : ∀ t, t = 7 ∨ t = 8 → ¬ Tc t := fun t h => by unfold Tc; omega
  obtain ⟨b, m4, s2, l2, h1, h2, h3⟩ := face (wo e o mm1).2 (wr_mm H (fun t k g i ht => by rw [wo_1]; exact (hc t k g i (hc8 t ht)).1))
  have hf := fr_rn cl_Tm has h1
  have h6 : ∀ t, t ≤ 6 → ¬ Tm t := fun t h => by unfold Tm; omega
  refine ⟨b, m4, s2, l2, h1, wr_MM h2 (fun t k g i ht => ?_), ?_, ?_⟩
  · rw [(hf t k g i (h6 t ht)).1, wo_1]
  · rcases h3 with ⟨rfl, k⟩ | ⟨x, rfl, k, _⟩
    · exact k
    · exact k
  · intro h0
    rw [(hf 9 0 0 0 (by unfold Tm; omega)).2]
    rcases h3 with ⟨rfl, k⟩ | ⟨x, rfl, k, _⟩
    · show (wL mm1 9 0 0 0 b.toInt64).2 9 0 0 0 = _
      unfold wL
      dsimp only
      rw [if_pos ⟨rfl, rfl, rfl, rfl⟩]
    · exact absurd h0 (hpl x rfl)
end
