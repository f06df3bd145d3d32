/-! THE SMALL MACHINE IS SOUND: locals and stacks, then one instruction after the other -/
def lvl (ad : PR → Nat) : Nat → List (Option PV) → List (Nat × Value)
  | _, [] => []
  | i, none :: r => lvl ad (i + 1) r
  | i, some v :: r => (i, toV ad v) :: lvl ad (i + 1) r
theorem lvl_mem {ad : PR → Nat} {L : List (Option PV)} : ∀ {i j : Nat} {w : Value}, (j, w) ∈ lvl ad i L ↔ ∃ (k : Nat) (v : PV), j = i + k ∧ L[k]? = some (some v) ∧ w = toV ad v := by
  induction L with
  | nil => intro i j w; simp [lvl]
  | cons a r ih =>
    intro i j w
    have step : (∃ (k : Nat) (v : PV), j = i + k ∧ (a :: r)[k]? = some (some v) ∧ w = toV ad v) ↔ ((∃ v, a = some v ∧ j = i ∧ w = toV ad v) ∨ ∃ (k : Nat) (v : PV), j = i + 1 + k ∧ r[k]? = some (some v) ∧ w = toV ad v) := by
      constructor
      · rintro ⟨k, v, h1, h2, h3⟩
        cases k with
        | zero => exact Or.inl ⟨v, by simpa using h2, by omega, h3⟩
        | succ k => exact Or.inr ⟨k, v, by omega, by simpa using h2, h3⟩
      · rintro (⟨v, h1, h2, h3⟩ | ⟨k, v, h1, h2, h3⟩)
        · exact ⟨0, v, by omega, by simp [h1], h3⟩
        · exact ⟨k + 1, v, by omega, by simpa using h2, h3⟩
    rw [step]
    cases a with
    | none => simp only [lvl, ih]; simp
    | some v =>
      simp only [lvl, List.mem_cons, ih, Prod.mk.injEq]
      constructor
      · rintro (⟨h1, h2⟩ | h)
        · exact Or.inl ⟨v, rfl, h1, h2⟩
        · exact Or.inr h
      · rintro (⟨v2, h0, h1, h2⟩ | h)
        · cases h0; exact Or.inl ⟨h1, h2⟩
        · exact Or.inr h
def LR (ad : PR → Nat) (n : Nat) (L : List (Option PV)) (ls : Array Slot) : Prop := L.length = n ∧ lv_has ls n (lvl ad 0 L) ∧ ∀ (k : Nat) (v : PV), L[k]? = some (some v) → vok v = true
theorem lr_get {ad : PR → Nat} {n : Nat} {L : List (Option PV)} {ls : Array Slot} (h : LR ad n L ls) {k : Nat} {v : PV} (hk : L[k]? = some (some v)) : ls[k]? = some (.val (toV ad v)) := h.2.1.2.2 (k, toV ad v) (lvl_mem.mpr ⟨k, v, by omega, hk, rfl⟩)
theorem lv_sub2 {ls : Array Slot} {n : Nat} {l l2 : List (Nat × Value)} (h : lv_has ls n l) (hs : ∀ q ∈ l2, q ∈ l) : lv_has ls n l2 := ⟨h.1, h.2.1, fun q hq => h.2.2 q (hs q hq)⟩
theorem clr_len (L : List (Option PV)) (i : Nat) : (clr L i).length = L.length := by
  unfold clr
  split
  · rfl
  · split
    · split
      · exact List.length_set
      · rfl
    · rfl
theorem clr_get {L : List (Option PV)} {i k : Nat} {u : PV} (h : (clr L i)[k]? = some (some u)) : L[k]? = some (some u) ∧ (i = k + 1 → ¬ cat u = 2) := by
  unfold clr at h
  split at h
  · exact ⟨h, fun q => by omega⟩
  · next j =>
    split at h
    · next w hw =>
      split at h
      · by_cases hk : k = j
        · subst hk
          rw [List.getElem?_set_self (List.getElem?_eq_some_iff.mp hw).1] at h
          cases h
        · rw [List.getElem?_set_ne (Ne.symm hk)] at h
          exact ⟨h, fun q => by omega⟩
      · next hc =>
        refine ⟨h, fun q => ?_⟩
        obtain rfl : j = k := by omega
        rw [hw] at h
        cases h
        exact hc
    · next hn =>
      refine ⟨h, fun q => ?_⟩
      obtain rfl : j = k := by omega
      exact absurd h (hn u)
theorem lset_len {L L2 : List (Option PV)} {i : Nat} {v : PV} (h : lset L i v = some L2) : i < L.length ∧ L2 = (clr L i).set i (some v) := by
  unfold lset at h
  by_cases hi : i < L.length
  · rw [if_pos hi] at h; cases h; exact ⟨hi, rfl⟩
  · rw [if_neg hi] at h; cases h
theorem lset2_len {L L2 : List (Option PV)} {i : Nat} {v : PV} (h : lset2 L i v = some L2) : i + 1 < L.length ∧ L2 = ((clr L i).set i (some v)).set (i + 1) none := by
  unfold lset2 at h
  by_cases hi : i + 1 < L.length
  · rw [if_pos hi] at h; cases h; exact ⟨hi, rfl⟩
  · rw [if_neg hi] at h; cases h
theorem lset_in {ad : PR → Nat} {L L2 : List (Option PV)} {i : Nat} {v : PV} (h : lset L i v = some L2) : ∀ q ∈ lvl ad 0 L2, q ∈ (i, toV ad v) :: (lvl ad 0 L).filter (fun q => !(q.1 == i) && !(q.1 + 1 == i && q.2.category == 2)) := by
  obtain ⟨hi, rfl⟩ := lset_len h
  rintro ⟨j, w⟩ hq
  obtain ⟨k, u, e1, e2, e3⟩ := lvl_mem.mp hq
  obtain rfl : j = k := by omega
  by_cases hj : j = i
  · subst hj
    rw [List.getElem?_set_self (by rw [clr_len]; exact hi)] at e2
    cases e2
    rw [e3]
    exact List.mem_cons_self
  · rw [List.getElem?_set_ne (Ne.symm hj)] at e2
    obtain ⟨e4, e5⟩ := clr_get e2
    refine List.mem_cons_of_mem _ (List.mem_filter.mpr ⟨lvl_mem.mpr ⟨j, u, by omega, e4, e3⟩, ?_⟩)
    simp only [Bool.and_eq_true, Bool.not_eq_true', beq_eq_false_iff_ne, ne_eq, Bool.and_eq_false_iff]
    refine ⟨hj, ?_⟩
    by_cases hji : j + 1 = i
    · right
      rw [e3, toV_cat]
      exact e5 hji.symm
    · exact Or.inl hji
theorem lset2_in {ad : PR → Nat} {L L2 : List (Option PV)} {i : Nat} {v : PV} (h : lset2 L i v = some L2) : ∀ q ∈ lvl ad 0 L2, q ∈ (i, toV ad v) :: (lvl ad 0 L).filter (fun q => !(q.1 == i) && (!(q.1 == i + 1) && !(q.1 + 1 == i && q.2.category == 2))) := by
  obtain ⟨hi, rfl⟩ := lset2_len h
  rintro ⟨j, w⟩ hq
  obtain ⟨k, u, e1, e2, e3⟩ := lvl_mem.mp hq
  obtain rfl : j = k := by omega
  by_cases hj1 : j = i + 1
  · subst hj1
    rw [List.getElem?_set_self (by rw [List.length_set, clr_len]; exact hi)] at e2
    cases e2
  rw [List.getElem?_set_ne (Ne.symm hj1)] at e2
  by_cases hj : j = i
  · subst hj
    rw [List.getElem?_set_self (by rw [clr_len]; omega)] at e2
    cases e2
    rw [e3]
    exact List.mem_cons_self
  · rw [List.getElem?_set_ne (Ne.symm hj)] at e2
    obtain ⟨e4, e5⟩ := clr_get e2
    refine List.mem_cons_of_mem _ (List.mem_filter.mpr ⟨lvl_mem.mpr ⟨j, u, by omega, e4, e3⟩, ?_⟩)
    simp only [Bool.and_eq_true, Bool.not_eq_true', beq_eq_false_iff_ne, ne_eq, Bool.and_eq_false_iff]
    refine ⟨hj, hj1, ?_⟩
    by_cases hji : j + 1 = i
    · right
      rw [e3, toV_cat]
      exact e5 hji.symm
    · exact Or.inl hji
theorem lset_ok {L L2 : List (Option PV)} {i : Nat} {v : PV} (h : lset L i v = some L2) (hv : vok v = true) (hL : ∀ (k : Nat) (v : PV), L[k]? = some (some v) → vok v = true) : L2.length = L.length ∧ ∀ (k : Nat) (v : PV), L2[k]? = some (some v) → vok v = true := by
  obtain ⟨hi, rfl⟩ := lset_len h
  refine ⟨by rw [List.length_set, clr_len], fun k w hk => ?_⟩
  by_cases hj : k = i
  · subst hj
    rw [List.getElem?_set_self (by rw [clr_len]; exact hi)] at hk
    cases hk
    exact hv
  · rw [List.getElem?_set_ne (Ne.symm hj)] at hk
    exact hL k w (clr_get hk).1
theorem lset2_ok {L L2 : List (Option PV)} {i : Nat} {v : PV} (h : lset2 L i v = some L2) (hv : vok v = true) (hL : ∀ (k : Nat) (v : PV), L[k]? = some (some v) → vok v = true) : L2.length = L.length ∧ ∀ (k : Nat) (v : PV), L2[k]? = some (some v) → vok v = true := by
  obtain ⟨hi, rfl⟩ := lset2_len h
  refine ⟨by rw [List.length_set, List.length_set, clr_len], fun k w hk => ?_⟩
  by_cases hj1 : k = i + 1
  · subst hj1
    rw [List.getElem?_set_self (by rw [List.length_set, clr_len]; exact hi)] at hk
    cases hk
  rw [List.getElem?_set_ne (Ne.symm hj1)] at hk
  by_cases hj : k = i
  · subst hj
    rw [List.getElem?_set_self (by rw [clr_len]; omega)] at hk
    cases hk
    exact hv
  · rw [List.getElem?_set_ne (Ne.symm hj)] at hk
    exact hL k w (clr_get hk).1
def SV (st : List PV) : Prop := ∀ v ∈ st, vok v = true
theorem sv_c {v : PV} {st : List PV} (h : vok v = true) (hs : SV st) : SV (v :: st) := fun w hw => (List.mem_cons.mp hw).elim (fun e => by rw [e]; exact h) (hs w)
theorem sv_t {v : PV} {st : List PV} (hs : SV (v :: st)) : SV st := fun w hw => hs w (List.mem_cons_of_mem _ hw)
theorem sv_h {v : PV} {st : List PV} (hs : SV (v :: st)) : vok v = true := hs v List.mem_cons_self
section SA
variable {p : Program} {l : Launch} {e : Env} {R : Room} {s : State} {mi : MethodId} {args : Array Value} {below : List Frame} {meth : Method} {c : Code} {H : Heap} {locs : List Loc} {cells slots : Nat} {Q : State → Prop}
variable {cc : ByteArray} {pc pc2 n nL : Nat} {ls : Array Slot} {ad : PR → Nat} {L L2 : List (Option PV)} {st st2 : List PV} {m m2 : PM} {i : Instr}
set_option maxHeartbeats 4000000 in
theorem sa_ok (hx : p.tables.exec = Jvm.exec) (hb : c.code = cc) (hl : LR ad nL L ls) (hs : SV st) (hd : decode cc pc = .ok (i, n)) (h : sm_a i n pc L st m = some (pc2, L2, st2, m2))
    (K : L2 = L → m2 = m → SV st2 → W p l e R s mi args below meth c H locs cells slots Q (F0 mi pc2 ls (st2.map (toV ad)))) : W p l e R s mi args below meth c H locs cells slots Q (F0 mi pc ls (st.map (toV ad))) := by
  unfold sm_a at h
  split at h
  · cases h; exact lv_iconst hx hb hd rfl (K rfl rfl (sv_c rfl hs))
  · cases h; exact lv_bipush hx hb hd rfl (K rfl rfl (sv_c rfl hs))
  · cases h; exact lv_sipush hx hb hd rfl (K rfl rfl (sv_c rfl hs))
  · cases h; exact lv_lconst hx hb hd rfl (K rfl rfl (sv_c rfl hs))
  · next v =>
    cases h
    have K2 := K rfl rfl (sv_c rfl hs)
    by_cases hv : v = 0
    · subst hv; rw [if_pos rfl] at K2; exact lv_dconst0 hx hb hd K2
    · rw [if_neg hv] at K2
      have hv1 : v = 1 := by omega
      subst hv1
      exact lv_dconst1 hx hb hd K2
  · cases h; exact lv_null hx hb hd (K rfl rfl (sv_c rfl hs))
  · split at h
    · next hk => cases h; exact lv_iload_n hx hb hd rfl (lr_get hl hk) (K rfl rfl (sv_c rfl hs))
    · cases h
  · split at h
    · next hk => cases h; exact lv_iload hx hb hd (lr_get hl hk) (K rfl rfl (sv_c rfl hs))
    · cases h
  · split at h
    · next hk => cases h; exact lv_lload_n hx hb hd rfl (lr_get hl hk) (K rfl rfl (sv_c rfl hs))
    · cases h
  · split at h
    · next hk => cases h; exact lv_lload hx hb hd (lr_get hl hk) (K rfl rfl (sv_c rfl hs))
    · cases h
  · split at h
    · next hk => cases h; exact lv_dload_n hx hb hd rfl (lr_get hl hk) (K rfl rfl (sv_c rfl hs))
    · cases h
  · split at h
    · next hk => cases h; exact lv_dload hx hb hd (lr_get hl hk) (K rfl rfl (sv_c rfl hs))
    · cases h
  · split at h
    · next x hk =>
      cases h
      have hv := hl.2.2 _ _ hk
      cases x with
      | none => exact lv_aload_nN hx hb hd rfl (lr_get hl hk) (K rfl rfl (sv_c hv hs))
      | some r => exact lv_aload_n hx hb hd rfl (lr_get hl hk) (K rfl rfl (sv_c hv hs))
    · cases h
  · split at h
    · next x hk =>
      cases h
      have hv := hl.2.2 _ _ hk
      cases x with
      | none => exact lv_aloadN hx hb hd (lr_get hl hk) (K rfl rfl (sv_c hv hs))
      | some r => exact lv_aload hx hb hd (lr_get hl hk) (K rfl rfl (sv_c hv hs))
    · cases h
  · cases h
end SA
