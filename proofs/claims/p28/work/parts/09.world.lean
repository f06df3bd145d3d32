/-! THE WORLD: where the named cells lie in the heap, and what stands in them -/
def okW (r : PR) : Bool := match r.1 with
  | 0 => decide (r.2.1 = 0) && decide (r.2.2 < 8)
  | 1 => (decide (r.2.1 < 11) && decide (r.2.2 < 8)) || (decide (r.2.1 = 11) && decide (r.2.2 = 0))
  | 2 => (decide (r.2.1 < 11) && decide (r.2.2 < 8)) || (decide (r.2.1 = 11) && decide (r.2.2 = 0))
  | 3 => decide (r.2.1 = 0) && decide (r.2.2 = 0)
  | 4 => decide (r.2.1 = 0) && decide (r.2.2 = 0)
  | 5 => decide (r.2.1 = 0) && decide (r.2.2 = 0)
  | 6 => decide (r.2.1 = 0) && decide (r.2.2 = 0)
  | 8 => decide (r.2.1 < 9) && decide (r.2.2 = 0)
  | _ => false
def okR (r : PR) : Bool := okW r || decide (r = (10, 0, 0))
def vok (v : PV) : Bool := match v with
  | .inr (.inr (.inr (some r))) => okR r
  | _ => true
def ids : List PR := ((List.range 8).flatMap fun g => (0, 0, g) :: (List.range 11).flatMap fun k => [(1, k, g), (2, k, g)]) ++ [(1, 11, 0), (2, 11, 0), (3, 0, 0), (4, 0, 0), (5, 0, 0), (6, 0, 0), (8, 0, 0), (8, 1, 0), (8, 2, 0), (8, 3, 0), (8, 4, 0), (8, 5, 0), (8, 6, 0), (8, 7, 0), (8, 8, 0)]
set_option maxRecDepth 100000 in
theorem ids_all0 : ((List.range 10).all fun t => (List.range 12).all fun k => (List.range 8).all fun g => !okW (t, k, g) || ids.any fun r => Nat.beq r.1 t && Nat.beq r.2.1 k && Nat.beq r.2.2 g) = true := by decide +kernel
theorem ids_all (t : Nat) (ht : t < 10) (k : Nat) (hk : k < 12) (g : Nat) (hg : g < 8) (h : okW (t, k, g) = true) : (t, k, g) ∈ ids := by
  have h1 := List.all_eq_true.mp (List.all_eq_true.mp (List.all_eq_true.mp ids_all0 t (List.mem_range.mpr ht)) k (List.mem_range.mpr hk)) g (List.mem_range.mpr hg)
  rw [h, Bool.not_true, Bool.false_or] at h1
  obtain ⟨r, hr, h2⟩ := List.any_eq_true.mp h1
  simp only [Bool.and_eq_true] at h2
  obtain ⟨⟨h3, h4⟩, h5⟩ := h2
  obtain ⟨a, b, c⟩ := r
  obtain rfl := Nat.eq_of_beq_eq_true h3
  obtain rfl := Nat.eq_of_beq_eq_true h4
  obtain rfl := Nat.eq_of_beq_eq_true h5
  exact hr
set_option maxRecDepth 100000 in
theorem ids_ok : ∀ r ∈ ids, okW r = true := by decide +kernel
def rcode (r : PR) : Nat := r.1 + 16 * (r.2.1 + 16 * r.2.2)
set_option maxRecDepth 100000 in
theorem ids_nd : va_nd (ids.map rcode) = true := by decide +kernel
theorem ids_inj {i j : Nat} {r : PR} (hi : ids[i]? = some r) (hj : ids[j]? = some r) : i = j :=
  va_nd_inj (ids.map rcode) ids_nd i j (rcode r) (by rw [List.getElem?_map, hi]; rfl) (by rw [List.getElem?_map, hj]; rfl)
theorem okW_lt {t k g : Nat} (h : okW (t, k, g) = true) : t < 10 ∧ k < 12 ∧ g < 8 := by
  have ht : t < 10 := by
    rcases Nat.lt_or_ge t 10 with q | q
    · exact q
    · exfalso
      obtain ⟨u, rfl⟩ : ∃ u, t = u + 10 := ⟨t - 10, by omega⟩
      simp [okW] at h
  refine ⟨ht, ?_⟩
  rcases (show t = 0 ∨ t = 1 ∨ t = 2 ∨ t = 3 ∨ t = 4 ∨ t = 5 ∨ t = 6 ∨ t = 7 ∨ t = 8 ∨ t = 9 by omega) with rfl | rfl | rfl | rfl | rfl | rfl | rfl | rfl | rfl | rfl <;> simp [okW] at h <;> omega
theorem ids_in {r : PR} (h : okW r = true) : r ∈ ids := by
  obtain ⟨t, k, g⟩ := r
  obtain ⟨h1, h2, h3⟩ := okW_lt h
  exact ids_all t h1 k h2 g h3 h
/-- a value of the small machine, in the heap's addresses -/
def toV (ad : PR → Nat) (v : PV) : Value := match v with
  | .inl x => .int x
  | .inr (.inl x) => .long x
  | .inr (.inr (.inl x)) => .double x
  | .inr (.inr (.inr none)) => .null
  | .inr (.inr (.inr (some r))) => .ref (ad r)
theorem toV_cat (ad : PR → Nat) (v : PV) : (toV ad v).category = cat v := by
  rcases v with x | x | x | _ | r <;> rfl
/-- the classes of int[], long[], State[] -/
abbrev AC : Type := ClassId × ClassId × ClassId
def tys (A : AC) : List (ClassId × FieldType) := [(A.1, .int), (A.2.2, .object "HotPanLocks$State")]
/-- what stands in a cell -/
def ce (A : AC) (ad : PR → Nat) (m : PM) (r : PR) : va_E := match r.1 with
  | 0 => .inr (2, [.ref (ad (1, 0, r.2.2)), .ref (ad (1, 1, r.2.2)), .ref (ad (1, 2, r.2.2)), .ref (ad (1, 3, r.2.2)), .ref (ad (1, 4, r.2.2)), .ref (ad (1, 5, r.2.2)), .ref (ad (1, 6, r.2.2)), .ref (ad (1, 7, r.2.2)), .ref (ad (1, 8, r.2.2)), .ref (ad (1, 9, r.2.2)), .ref (ad (1, 10, r.2.2)), .int (m.1 0 0 r.2.2 11)])
  | 1 => .inr (1, [.ref (ad (2, r.2.1, r.2.2))])
  | 2 => .inl (A.1, nlen r.2.1, .inl (fun i => m.1 2 r.2.1 r.2.2 i))
  | 3 => .inr (4, [.ref (ad (0, 0, 0)), .ref (ad (0, 0, 1)), .ref (ad (4, 0, 0)), .ref (ad (6, 0, 0))])
  | 4 => .inr (0, [.ref (ad (5, 0, 0)), .int (m.1 4 0 0 1), .int (m.1 4 0 0 2)])
  | 5 => .inl (A.2.2, 6, .inr (.inr (.inr (.inr (fun i => some (ad (0, 0, 2 + i)))))))
  | 6 => .inr (3, [.ref (ad (1, 11, 0)), .int (m.1 6 0 0 1)])
  | _ => .inl (A.1, zlen r.2.1, .inl (fun i => m.1 8 r.2.1 0 i))
def wd (A : AC) (ad : PR → Nat) (m : PM) : va_W := ids.map fun r => (ad r, ce A ad m r)
theorem wd_at {A : AC} {ad : PR → Nat} {m : PM} {r : PR} (h : okW r = true) : ∃ q0 : Nat, ids[q0]? = some r ∧ (wd A ad m)[q0]? = some (ad r, ce A ad m r) := by
  obtain ⟨q0, h0⟩ := List.getElem?_of_mem (ids_in h)
  exact ⟨q0, h0, by rw [wd, List.getElem?_map, h0]; rfl⟩
theorem wd_set {A : AC} {ad : PR → Nat} {m m2 : PM} {r : PR} {q0 : Nat} {e : va_E} (h0 : ids[q0]? = some r) (he : ce A ad m2 r = e) (ho : ∀ r2 : PR, okW r2 = true → r2 ≠ r → ce A ad m2 r2 = ce A ad m r2) : (wd A ad m).set q0 (ad r, e) = wd A ad m2 := by
  apply List.ext_getElem?
  intro i
  have hl : q0 < ids.length := (List.getElem?_eq_some_iff.mp h0).1
  by_cases hi : i = q0
  · subst hi
    rw [List.getElem?_set_self (by rw [wd, List.length_map]; exact hl), wd, List.getElem?_map, h0, Option.map_some, he]
  · rw [List.getElem?_set_ne (Ne.symm hi), wd, wd, List.getElem?_map, List.getElem?_map]
    cases h1 : ids[i]? with
    | none => rfl
    | some r2 =>
      have hne : r2 ≠ r := fun q => hi (ids_inj (r := r) (by rw [h1, q]) h0)
      rw [Option.map_some, Option.map_some, ho r2 (ids_ok r2 (List.mem_of_getElem? h1)) hne]
theorem ce_same {A : AC} {ad : PR → Nat} {m m2 : PM} {r : PR} (h : okW r = true) (h1 : ∀ i, m2.1 r.1 r.2.1 r.2.2 i = m.1 r.1 r.2.1 r.2.2 i) (h2 : ∀ i, m2.2 r.1 r.2.1 r.2.2 i = m.2 r.1 r.2.1 r.2.2 i) : ce A ad m2 r = ce A ad m r := by
  obtain ⟨t, k, g⟩ := r
  have ht := (okW_lt h).1
  dsimp only at h1 h2
  rcases (show t = 0 ∨ t = 1 ∨ t = 2 ∨ t = 3 ∨ t = 4 ∨ t = 5 ∨ t = 6 ∨ t = 7 ∨ t = 8 ∨ t = 9 by omega) with rfl | rfl | rfl | rfl | rfl | rfl | rfl | rfl | rfl | rfl <;> simp [okW] at h
  · obtain ⟨rfl, -⟩ := h; simp [ce, h1]
  · rfl
  · simp [ce, h1]
  · rfl
  · obtain ⟨rfl, rfl⟩ := h; simp [ce, h1]
  · rfl
  · obtain ⟨rfl, rfl⟩ := h; simp [ce, h1]
  · obtain ⟨-, rfl⟩ := h; simp [ce, h1]
theorem wI_ne {m : PM} {t k g s : Nat} {v : Int32} {r : PR} (h : r ≠ (t, k, g)) (i : Nat) : (wI m t k g s v).1 r.1 r.2.1 r.2.2 i = m.1 r.1 r.2.1 r.2.2 i := by
  obtain ⟨a, b, c⟩ := r
  unfold wI
  dsimp only
  rw [if_neg]
  rintro ⟨rfl, rfl, rfl, -⟩
  exact h rfl
theorem wL_ne {m : PM} {t k g s : Nat} {v : Int64} {r : PR} (h : r ≠ (t, k, g)) (i : Nat) : (wL m t k g s v).2 r.1 r.2.1 r.2.2 i = m.2 r.1 r.2.1 r.2.2 i := by
  obtain ⟨a, b, c⟩ := r
  unfold wL
  dsimp only
  rw [if_neg]
  rintro ⟨rfl, rfl, rfl, -⟩
  exact h rfl
theorem wC_ne {m : PM} {k g n k2 g2 : Nat} {r : PR} (h : r ≠ (2, k2, g2)) (i : Nat) : (wC m k g n k2 g2).1 r.1 r.2.1 r.2.2 i = m.1 r.1 r.2.1 r.2.2 i := by
  obtain ⟨a, b, c⟩ := r
  unfold wC
  dsimp only
  rw [if_neg]
  rintro ⟨rfl, rfl, rfl, -⟩
  exact h rfl
/-- a field that is read -/
theorem fv_ok {A : AC} {ad : PR → Nat} {m : PM} {t k g s ci : Nat} {v : PV} (h : okW (t, k, g) = true) (ht : tcl t = some ci) (hv : fv m t k g s = some v) : ∃ fs, ce A ad m (t, k, g) = .inr (ci, fs) ∧ fs[s]? = some (toV ad v) ∧ vok v = true := by
  have h10 := (okW_lt h).1
  rcases (show t = 0 ∨ t = 1 ∨ t = 2 ∨ t = 3 ∨ t = 4 ∨ t = 5 ∨ t = 6 ∨ t = 7 ∨ t = 8 ∨ t = 9 by omega) with rfl | rfl | rfl | rfl | rfl | rfl | rfl | rfl | rfl | rfl <;> simp [tcl] at ht <;> subst ht
  · simp [okW] at h
    obtain ⟨rfl, hg⟩ := h
    refine ⟨_, rfl, ?_⟩
    have hv : (if s = 11 then some (vI (m.1 0 0 g 11)) else if s < 11 then some (vR 1 s g) else none) = some v := hv
    by_cases h11 : s = 11
    · rw [if_pos h11] at hv; cases hv; subst h11; exact ⟨rfl, rfl⟩
    · rw [if_neg h11] at hv
      by_cases hs : s < 11
      · rw [if_pos hs] at hv
        cases hv
        rcases (show s = 0 ∨ s = 1 ∨ s = 2 ∨ s = 3 ∨ s = 4 ∨ s = 5 ∨ s = 6 ∨ s = 7 ∨ s = 8 ∨ s = 9 ∨ s = 10 by omega) with rfl | rfl | rfl | rfl | rfl | rfl | rfl | rfl | rfl | rfl | rfl <;> exact ⟨rfl, by simp [vok, okR, okW, hg]⟩
      · rw [if_neg hs] at hv; cases hv
  · simp [okW] at h
    refine ⟨_, rfl, ?_⟩
    rcases s with _ | s
    · cases hv; exact ⟨rfl, by simp [vok, okR, okW]; exact h⟩
    · cases hv
  · simp [okW] at h
    obtain ⟨rfl, rfl⟩ := h
    refine ⟨_, rfl, ?_⟩
    rcases s with _ | _ | _ | _ | s <;> cases hv <;> exact ⟨rfl, rfl⟩
  · simp [okW] at h
    obtain ⟨rfl, rfl⟩ := h
    refine ⟨_, rfl, ?_⟩
    rcases s with _ | _ | _ | s <;> cases hv <;> exact ⟨rfl, rfl⟩
  · simp [okW] at h
    obtain ⟨rfl, rfl⟩ := h
    refine ⟨_, rfl, ?_⟩
    rcases s with _ | _ | s <;> cases hv <;> exact ⟨rfl, rfl⟩
/-- the int fields that are written: class, place -/
def ipl : List (Nat × Nat) := [(2, 11), (0, 1), (0, 2), (3, 1)]
theorem ip_ok {A : AC} {ad : PR → Nat} {m : PM} {t k g s ci : Nat} (v : Int32) (h : okW (t, k, g) = true) (ht : tcl t = some ci) (hs : ipf t s = true) : (ci, s) ∈ ipl ∧ ∃ fs, ce A ad m (t, k, g) = .inr (ci, fs) ∧ s < fs.length ∧ ce A ad (wI m t k g s v) (t, k, g) = .inr (ci, fs.set s (.int v)) := by
  have h10 := (okW_lt h).1
  rcases (show t = 0 ∨ t = 1 ∨ t = 2 ∨ t = 3 ∨ t = 4 ∨ t = 5 ∨ t = 6 ∨ t = 7 ∨ t = 8 ∨ t = 9 by omega) with rfl | rfl | rfl | rfl | rfl | rfl | rfl | rfl | rfl | rfl <;> simp [tcl] at ht <;> subst ht <;> simp [ipf] at hs <;> simp [okW] at h
  · obtain ⟨rfl, hg⟩ := h
    subst hs
    exact ⟨by decide, _, rfl, Nat.le_of_ble_eq_true rfl, by simp [ce, wI]⟩
  · obtain ⟨rfl, rfl⟩ := h
    rcases hs with rfl | rfl <;> exact ⟨by decide, _, rfl, Nat.le_of_ble_eq_true rfl, by simp [ce, wI]⟩
  · obtain ⟨rfl, rfl⟩ := h
    subst hs
    exact ⟨by decide, _, rfl, Nat.le_of_ble_eq_true rfl, by simp [ce, wI]⟩
/-- int arrays -/
theorem ia_ok {A : AC} {ad : PR → Nat} {m : PM} {t k g N : Nat} (h : okW (t, k, g) = true) (hn : ilen m t k = some N) : ce A ad m (t, k, g) = .inl (A.1, N, .inl (fun i => m.1 t k g i)) ∧ ∀ (j : Nat) (v : Int32), ce A ad (wI m t k g j v) (t, k, g) = .inl (A.1, N, .inl (upd (fun i => m.1 t k g i) j v)) := by
  have h10 := (okW_lt h).1
  rcases (show t = 0 ∨ t = 1 ∨ t = 2 ∨ t = 3 ∨ t = 4 ∨ t = 5 ∨ t = 6 ∨ t = 7 ∨ t = 8 ∨ t = 9 by omega) with rfl | rfl | rfl | rfl | rfl | rfl | rfl | rfl | rfl | rfl <;> simp [ilen] at hn <;> subst hn
  · refine ⟨rfl, fun j v => ?_⟩
    simp only [ce, wI]
    congr 4
    funext i
    simp [upd]
  · simp [okW] at h
    obtain ⟨-, rfl⟩ := h
    refine ⟨rfl, fun j v => ?_⟩
    simp only [ce, wI]
    congr 4
    funext i
    simp [upd]
theorem al_ok {A : AC} {ad : PR → Nat} {m : PM} {t k g : Nat} {v : Int32} (h : okW (t, k, g) = true) (hn : alen m t k = some v) : ∃ (t0 : Nat) (c : ClassId) (ty : FieldType) (x : vp_A), (tys A)[t0]? = some (c, ty) ∧ ce A ad m (t, k, g) = .inl (c, x) ∧ Int32.ofNat x.1 = v := by
  have h10 := (okW_lt h).1
  rcases (show t = 0 ∨ t = 1 ∨ t = 2 ∨ t = 3 ∨ t = 4 ∨ t = 5 ∨ t = 6 ∨ t = 7 ∨ t = 8 ∨ t = 9 by omega) with rfl | rfl | rfl | rfl | rfl | rfl | rfl | rfl | rfl | rfl <;> simp [alen] at hn <;> subst hn
  · exact ⟨0, A.1, .int, _, rfl, rfl, rfl⟩
  · exact ⟨1, A.2.2, _, _, rfl, rfl, rfl⟩
  · exact ⟨0, A.1, .int, _, rfl, rfl, rfl⟩
