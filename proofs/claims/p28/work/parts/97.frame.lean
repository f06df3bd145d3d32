/-! what a run leaves alone: cells of a kind that it has no reference to -/
section
variable {T : Nat → Prop}
def RV (T : Nat → Prop) (v : PV) : Prop := match v with
  | .inr (.inr (.inr (some r))) => T r.1
  | _ => True
def RLk (T : Nat → Prop) (L : List (Option PV)) : Prop := ∀ v, some v ∈ L → RV T v
def RSk (T : Nat → Prop) (st : List PV) : Prop := ∀ v ∈ st, RV T v
def FRk (T : Nat → Prop) (m m2 : PM) : Prop := ∀ t k g i, ¬ T t → m2.1 t k g i = m.1 t k g i ∧ m2.2 t k g i = m.2 t k g i
theorem fr_refl (m : PM) : FRk T m m := fun _ _ _ _ _ => ⟨rfl, rfl⟩
theorem fr_trans {m m2 m3 : PM} (h : FRk T m m2) (h2 : FRk T m2 m3) : FRk T m m3 := fun t k g i ht => ⟨(h2 t k g i ht).1.trans (h t k g i ht).1, (h2 t k g i ht).2.trans (h t k g i ht).2⟩
theorem fr_wI {m : PM} {t k g i : Nat} {v : Int32} (h : T t) : FRk T m (wI m t k g i v) := by
  intro a b c d ha
  refine ⟨?_, rfl⟩
  unfold wI
  dsimp only
  rw [if_neg (fun q => ha (by rw [q.1]; exact h))]
theorem fr_wL {m : PM} {t k g i : Nat} {v : Int64} (h : T t) : FRk T m (wL m t k g i v) := by
  intro a b c d ha
  refine ⟨rfl, ?_⟩
  unfold wL
  dsimp only
  rw [if_neg (fun q => ha (by rw [q.1]; exact h))]
theorem fr_wC {m : PM} {k g n k2 g2 : Nat} (h : T 2) : FRk T m (wC m k g n k2 g2) := by
  intro a b c d ha
  refine ⟨?_, rfl⟩
  unfold wC
  dsimp only
  rw [if_neg (fun q => ha (by rw [q.1]; exact h))]
theorem rs_c {v : PV} {st : List PV} (h : RV T v) (hs : RSk T st) : RSk T (v :: st) := by
  intro u hu
  rcases List.mem_cons.mp hu with rfl | q
  · exact h
  · exact hs u q
theorem rs_h {v : PV} {st : List PV} (hs : RSk T (v :: st)) : RV T v := hs v List.mem_cons_self
theorem rs_t {v : PV} {st : List PV} (hs : RSk T (v :: st)) : RSk T st := fun u hu => hs u (List.mem_cons_of_mem _ hu)
theorem rl_clr {L : List (Option PV)} {i : Nat} (h : RLk T L) : RLk T (clr L i) := by
  unfold clr
  cases i with
  | zero => exact h
  | succ j =>
    dsimp only
    split
    · split
      · intro v hv
        rcases List.mem_or_eq_of_mem_set hv with q | q
        · exact h v q
        · cases q
      · exact h
    · exact h
theorem rl_set {L : List (Option PV)} {i : Nat} {v : PV} (h : RLk T L) (hv : RV T v) : RLk T (L.set i (some v)) := by
  intro u hu
  rcases List.mem_or_eq_of_mem_set hu with q | q
  · exact h u q
  · cases q; exact hv
theorem rl_setN {L : List (Option PV)} {i : Nat} (h : RLk T L) : RLk T (L.set i none) := by
  intro u hu
  rcases List.mem_or_eq_of_mem_set hu with q | q
  · exact h u q
  · cases q
theorem rl_lset {L L2 : List (Option PV)} {i : Nat} {v : PV} (h : RLk T L) (hv : RV T v) (e : lset L i v = some L2) : RLk T L2 := by
  unfold lset at e
  split at e
  · cases e; exact rl_set (rl_clr h) hv
  · cases e
theorem rl_lset2 {L L2 : List (Option PV)} {i : Nat} {v : PV} (h : RLk T L) (hv : RV T v) (e : lset2 L i v = some L2) : RLk T L2 := by
  unfold lset2 at e
  split at e
  · cases e; exact rl_setN (rl_set (rl_clr h) hv)
  · cases e
variable {o n pc pc2 : Nat} {i : Instr} {L L2 : List (Option PV)} {st st2 : List PV} {m m2 : PM}
theorem fr_a (hL : RLk T L) (hS : RSk T st) (h : sm_a i n pc L st m = some (pc2, L2, st2, m2)) : RLk T L2 ∧ RSk T st2 ∧ m2 = m := by
  unfold sm_a at h
  split at h
  all_goals first
    | (cases h; done)
    | (cases h; exact ⟨hL, rs_c trivial hS, rfl⟩)
    | (split at h
       · next x hx => first
           | (cases h; exact ⟨hL, rs_c trivial hS, rfl⟩)
           | (cases h; exact ⟨hL, rs_c (hL _ (List.mem_of_getElem? hx)) hS, rfl⟩)
       · cases h)
theorem fr_b (hL : RLk T L) (hS : RSk T st) (h : sm_b i n pc L st m = some (pc2, L2, st2, m2)) : RLk T L2 ∧ RSk T st2 ∧ m2 = m := by
  unfold sm_b at h
  split at h
  all_goals first
    | (cases h; done)
    | (split at h
       all_goals first
         | (cases h; done)
         | (split at h
            · next L9 h9 =>
              cases h
              exact ⟨rl_lset hL (rs_h hS) h9, rs_t hS, rfl⟩
            · cases h)
         | (split at h
            · next L9 h9 =>
              cases h
              exact ⟨rl_lset2 hL (rs_h hS) h9, rs_t hS, rfl⟩
            · cases h)
         | (split at h
            · cases h
              exact ⟨hL, rs_c (rs_h hS) hS, rfl⟩
            · cases h)
         | (split at h
            · cases h
              exact ⟨hL, rs_t hS, rfl⟩
            · cases h)
         | (split at h
            · split at h
              · cases h
                exact ⟨hL, rs_c (rs_h hS) (rs_c (rs_h (rs_t hS)) hS), rfl⟩
              · cases h
            · cases h))
    | (split at h
       · split at h
         · next L9 h9 =>
           cases h
           exact ⟨rl_lset hL (show RV T (vI _) from trivial) h9, hS, rfl⟩
         · cases h
       · cases h)
theorem fr_c (hL : RLk T L) (hS : RSk T st) (h : sm_c i n pc L st m = some (pc2, L2, st2, m2)) : RLk T L2 ∧ RSk T st2 ∧ m2 = m := by
  unfold sm_c at h
  split at h
  all_goals first
    | (cases h; done)
    | (cases h; exact ⟨hL, rs_c trivial (rs_t (rs_t hS)), rfl⟩)
    | (cases h; exact ⟨hL, rs_c trivial (rs_t hS), rfl⟩)
    | (split at h
       · cases h; exact ⟨hL, rs_c trivial (rs_t (rs_t hS)), rfl⟩
       · cases h)
    | (split at h
       · cases h
       · cases h; exact ⟨hL, rs_c trivial (rs_t (rs_t hS)), rfl⟩)
theorem fr_d (hL : RLk T L) (hS : RSk T st) (h : sm_d i n pc L st m = some (pc2, L2, st2, m2)) : RLk T L2 ∧ RSk T st2 ∧ m2 = m := by
  unfold sm_d at h
  split at h
  · split at h
    · cases h; exact ⟨hL, hS, rfl⟩
    · cases h
  · split at h
    · split at h
      · split at h <;> (cases h; exact ⟨hL, rs_t hS, rfl⟩)
      · cases h
    · cases h
  · split at h
    · split at h
      · split at h <;> (cases h; exact ⟨hL, rs_t (rs_t hS), rfl⟩)
      · cases h
    · cases h
  · split at h
    · split at h
      · cases h; exact ⟨hL, rs_t hS, rfl⟩
      · cases h
    · cases h; exact ⟨hL, rs_t hS, rfl⟩
    · cases h
  · split at h
    · split at h
      · cases h; exact ⟨hL, rs_t hS, rfl⟩
      · cases h
    · cases h; exact ⟨hL, rs_t hS, rfl⟩
    · cases h
  · split at h
    · split at h
      · split at h
        · cases h; exact ⟨hL, rs_t hS, rfl⟩
        · cases h
      · split at h
        · split at h
          · cases h; exact ⟨hL, rs_t hS, rfl⟩
          · cases h
        · cases h
    · cases h
  · split at h
    · split at h
      · split at h
        · cases h; exact ⟨hL, rs_t hS, rfl⟩
        · cases h
      · cases h
    · cases h
  · cases h
/-- kinds closed under what a field holds -/
def CLk (T : Nat → Prop) : Prop := (∀ m t k g s v, T t → fv m t k g s = some v → RV T v) ∧ (T 5 → T 0)
theorem fr_e (hT : CLk T) (hL : RLk T L) (hS : RSk T st) (h : sm_e o i n pc L st m = some (pc2, L2, st2, m2)) : RLk T L2 ∧ RSk T st2 ∧ FRk T m m2 := by
  unfold sm_e at h
  split at h
  · split at h
    · split at h
      · split at h
        · split at h
          · next hv => cases h; exact ⟨hL, rs_c (hT.1 _ _ _ _ _ _ (rs_h hS) hv) (rs_t hS), fr_refl _⟩
          · cases h
        · cases h
      · cases h
    · cases h
  · split at h
    · split at h
      · split at h
        · split at h
          · cases h; exact ⟨hL, rs_t (rs_t hS), fr_wI (rs_h (rs_t hS))⟩
          · cases h
        · cases h
      · cases h
    · split at h
      · split at h
        · split at h
          · cases h; exact ⟨hL, rs_t (rs_t hS), fr_wL (rs_h (rs_t hS))⟩
          · cases h
        · cases h
      · cases h
    · cases h
  · split at h
    · split at h
      · split at h
        · cases h
        · cases h; exact ⟨hL, rs_c trivial (rs_t (rs_t hS)), fr_refl _⟩
      · cases h
    · cases h
  · split at h
    · split at h
      · split at h
        · cases h
        · split at h
          · cases h
          · cases h; exact ⟨hL, rs_t (rs_t (rs_t hS)), fr_wI (rs_h (rs_t (rs_t hS)))⟩
      · cases h
    · cases h
  · split at h
    · split at h
      · cases h
      · cases h; exact ⟨hL, rs_c (hT.2 (rs_h (rs_t hS))) (rs_t (rs_t hS)), fr_refl _⟩
    · cases h
  · split at h
    · split at h
      · cases h; exact ⟨hL, rs_c trivial (rs_t hS), fr_refl _⟩
      · cases h
    · cases h
  · split at h
    · cases h; exact ⟨hL, rs_c trivial hS, fr_refl _⟩
    · cases h
  · split at h
    · cases h; exact ⟨hL, rs_c trivial hS, fr_refl _⟩
    · split at h
      · cases h; exact ⟨hL, rs_c trivial hS, fr_refl _⟩
      · cases h
  · split at h
    · split at h
      · split at h
        · cases h; exact ⟨hL, (fun u hu => nomatch hu), fr_wC (rs_h (rs_t (rs_t hS)))⟩
        · cases h
      · cases h
    · split at h
      · cases h; exact ⟨hL, rs_c trivial (rs_t hS), fr_refl _⟩
      · cases h
    · split at h
      · split at h
        · cases h; exact ⟨hL, rs_c trivial (rs_t (rs_t hS)), fr_refl _⟩
        · cases h
      · cases h
    · split at h
      · split at h
        · cases h; exact ⟨hL, rs_c trivial (rs_t (rs_t hS)), fr_refl _⟩
        · cases h
      · cases h
    · cases h
  · cases h
theorem fr_ins (hT : CLk T) (hL : RLk T L) (hS : RSk T st) (h : sm_ins o i n pc L st m = some (pc2, L2, st2, m2)) : RLk T L2 ∧ RSk T st2 ∧ FRk T m m2 := by
  unfold sm_ins at h
  split at h
  · next r h1 =>
    cases h
    obtain ⟨a, b, rfl⟩ := fr_a hL hS h1
    exact ⟨a, b, fr_refl _⟩
  · split at h
    · next r h1 =>
      cases h
      obtain ⟨a, b, rfl⟩ := fr_b hL hS h1
      exact ⟨a, b, fr_refl _⟩
    · split at h
      · next r h1 =>
        cases h
        obtain ⟨a, b, rfl⟩ := fr_c hL hS h1
        exact ⟨a, b, fr_refl _⟩
      · split at h
        · next r h1 =>
          cases h
          obtain ⟨a, b, rfl⟩ := fr_d hL hS h1
          exact ⟨a, b, fr_refl _⟩
        · exact fr_e hT hL hS h
theorem rl_lpad : ∀ (n : Nat) {L : List (Option PV)}, RLk T L → RLk T (lpad L n)
  | 0, L, h => h
  | n + 1, L, h => rl_lpad n (L := L ++ [none]) (fun v hv => by
      rcases List.mem_append.mp hv with q | q
      · exact h v q
      · cases List.mem_singleton.mp q)
theorem rl_lent : ∀ {as : List PV}, RSk T as → RLk T (lent as)
  | [], h => fun v hv => nomatch hv
  | w :: r, h => by
    unfold lent
    split
    · intro v hv
      rcases List.mem_cons.mp hv with q | q
      · cases q; exact rs_h h
      · rcases List.mem_cons.mp q with q | q
        · cases q
        · exact rl_lent (rs_t h) v q
    · intro v hv
      rcases List.mem_cons.mp hv with q | q
      · cases q; exact rs_h h
      · exact rl_lent (rs_t h) v q
theorem rs_ret {M : MI} {v : Option PV} (hS : RSk T st) (h : sm_ret M pc st = some v) : RSk T v.toList := by
  rcases sm_ret_ok h with ⟨_, x, ty, rfl, _, _, rfl⟩ | ⟨_, x, rfl, _, rfl⟩ | ⟨_, x, rfl, _, rfl⟩ | ⟨_, x, rfl, _, rfl⟩ | ⟨_, rfl, _, rfl⟩
  · exact hS
  · exact hS
  · exact hS
  · exact hS
  · exact hS
theorem rs_cal {M M2 : MI} {as rest : List PV} (hS : RSk T st) (h : sm_cal M i st = some (M2, as, rest)) : RSk T as ∧ RSk T rest := by
  have key : ∀ k, RSk T ((st.take k).reverse) ∧ RSk T (st.drop k) := fun k => ⟨fun u hu => hS u (List.mem_of_mem_take (List.mem_reverse.mp hu)), fun u hu => hS u (List.mem_of_mem_drop hu)⟩
  unfold sm_cal at h
  split at h
  · split at h
    · split at h
      · cases h; exact key _
      · cases h
    · split at h
      · cases h; exact key _
      · cases h
    · cases h
  · split at h
    · split at h
      · split at h
        · cases h; exact key _
        · cases h
      · cases h
    · cases h
  · cases h
theorem fr_go (hT : CLk T) : ∀ (n : Nat) {M : MI} {pc : Nat} {L : List (Option PV)} {st : List PV} {m : PM} {r : PS}, sm_go n M pc L st m = some r → RLk T L → RSk T st → RSk T r.2.2.1 ∧ FRk T m r.2.2.2 := by
  intro n
  induction n with
  | zero => intro M pc L st m r h; cases h
  | succ n ih =>
    intro M pc L st m r h hL hS
    unfold sm_go at h
    cases h1 : asc (mT M) pc with
    | none => rw [h1] at h; cases h
    | some q =>
      obtain ⟨i, len⟩ := q
      rw [h1] at h
      dsimp only at h
      cases h2 : sm_ins (mO M) i len pc L st m with
      | some q =>
        obtain ⟨a, b, c, d⟩ := q
        rw [h2] at h
        obtain ⟨x, y, z⟩ := fr_ins hT hL hS h2
        obtain ⟨u, v⟩ := ih h x y
        exact ⟨u, fr_trans z v⟩
      | none =>
        rw [h2] at h
        dsimp only at h
        cases h3 : sm_cal M i st with
        | none =>
          rw [h3] at h
          dsimp only at h
          split at h
          · cases h; exact ⟨hS, fr_refl _⟩
          · cases h
        | some q =>
          obtain ⟨M2, as, rest⟩ := q
          rw [h3] at h
          dsimp only at h
          split at h
          · cases h5 : sm_go n M2 0 (lpad (lent as) (mN M2 - (lent as).length)) [] m with
            | none => rw [h5] at h; cases h
            | some q =>
              obtain ⟨a, b, c, d⟩ := q
              rw [h5] at h
              dsimp only at h
              obtain ⟨k1, k2⟩ := rs_cal hS h3
              obtain ⟨u, z⟩ := ih h5 (rl_lpad _ (rl_lent k1)) (fun v hv => nomatch hv)
              cases h6 : sm_ret M2 a c with
              | none => rw [h6] at h; cases h
              | some v =>
                rw [h6] at h
                dsimp only at h
                obtain ⟨x, y⟩ := ih h hL (fun w hw => by
                  rcases List.mem_append.mp hw with q | q
                  · exact rs_ret u h6 w q
                  · exact k2 w q)
                exact ⟨x, fr_trans z y⟩
          · cases h
theorem fr_an (hT : CLk T) {M : MI} {v : OC} (hL : RLk T L) (h : An M pc L [] m v m2) : FRk T m m2 := by
  obtain ⟨a, b, c, ⟨n, h1⟩, h2⟩ := h
  exact (fr_go hT n h1 hL (fun v hv => nomatch hv)).2
theorem fr_rn (hT : CLk T) {M : MI} {as : List PV} {v : Option PV} (hs : RSk T as) (h : Rn M as m v m2) : FRk T m m2 := by
  obtain ⟨a, b, c, ⟨n, h1⟩, h2⟩ := h
  exact (fr_go hT n h1 (rl_lpad _ (rl_lent hs)) (fun v hv => nomatch hv)).2
/-- the class's kinds, the model's -/
def Tc (t : Nat) : Prop := t ≤ 6
theorem cl_fv : ∀ (m : PM) (t k g s : Nat) (v : PV), fv m t k g s = some v → Tc t → RV Tc v := by
  intro m t k g s v h _
  unfold fv at h
  split at h
  · split at h
    · cases h; exact trivial
    · split at h
      · cases h; exact (show (1 : Nat) ≤ 6 by decide)
      · cases h
  · split at h
    · cases h; exact (show (2 : Nat) ≤ 6 by decide)
    · cases h
  · split at h
    · cases h; exact (show (0 : Nat) ≤ 6 by decide)
    · cases h; exact (show (0 : Nat) ≤ 6 by decide)
    · cases h; exact (show (4 : Nat) ≤ 6 by decide)
    · cases h; exact (show (6 : Nat) ≤ 6 by decide)
    · cases h
  · split at h
    · cases h; exact (show (5 : Nat) ≤ 6 by decide)
    · cases h; exact trivial
    · cases h; exact trivial
    · cases h
  · split at h
    · cases h; exact (show (1 : Nat) ≤ 6 by decide)
    · cases h; exact trivial
    · cases h
  · cases h
theorem cl_Tc : CLk Tc := ⟨fun m t k g s v ht h => cl_fv m t k g s v h ht, fun _ => (show (0 : Nat) ≤ 6 by decide)⟩
end
