section GO
variable {A : AC} {D : va_G} {ad : PR → Nat} {Ba : Nat → Prop} {bs L9 : Nat} {xs : Nat → Int32}
/-- what holds of a method's start but its own code: the classes, the nest's words, the script -/
def TB (A : AC) (D : va_G) (Ba : Nat → Prop) (bs L9 : Nat) (xs : Nat → Int32) (s : State) : Prop := va_K D vwCl (tys A) s ∧ (∀ w ∈ NW, va_Nw w s) ∧ va_X bs L9 xs s s.heap ∧ bs < s.heap.size ∧ (∀ q, s.heap.size ≤ q → Ba q) ∧ ¬ Ba bs
def Cx (A : AC) (D : va_G) (Ba : Nat → Prop) (bs L9 : Nat) (xs : Nat → Int32) (M : MI) (p : Program) (R : Room) (s : State) (mi : MethodId) (args : Array Value) (meth : Method) (c : Code) : Prop :=
  p.tables.exec = Jvm.exec ∧ c.code = mB M ∧ c.maxLocals = mN M ∧ s.vm.findClass (RO (mO M)) = some mi.cls ∧ (∀ w ∈ BW, w.before args s = true) ∧ meth.sig.returnType = mRet M ∧ meth.locks = false ∧ mFr M ≤ R.frames ∧ mLo M ≤ R.locals ∧ 1 ≤ mFr M ∧ 30 ≤ mLo M ∧ dcG M ∧ TB A D Ba bs L9 xs s
theorem nw_nest {w : Cond} (h : w ∈ NW) : ∃ a i x h, w = .methodLinkNest a i x h := by
  have h2 := (List.mem_filter.mp h).2
  unfold isNest at h2
  split at h2
  · exact ⟨_, _, _, _, rfl⟩
  · cases h2
theorem tb_calling {U : State} {g : JFrame} {mk : MethodId} {a : Array Value} (h : TB A D Ba bs L9 xs U) : TB A D Ba bs L9 xs (U.calling g mk a) := by
  obtain ⟨h1, h2, h3, h4, h5, h6⟩ := h
  refine ⟨va_K.moved (u := U) (U := U.calling g mk a) (Vm.Alike.refl U.vm) h1, fun w hw => ?_, va_X.moved (u := U) (U := U.calling g mk a) (Vm.Alike.refl U.vm) h3, h4, h5, h6⟩
  obtain ⟨_, _, _, _, rfl⟩ := nw_nest hw
  exact va_Nw.same rfl (u := U) rfl (h2 _ hw)
theorem tb_moved {s U : State} {H : Heap} {locs : List Loc} (h : TB A D Ba bs L9 xs s) (hS : va_S Ba s.heap H locs) (hU : U.heap = H) (hW : s.WarmedH U.vm) : TB A D Ba bs L9 xs U := by
  obtain ⟨h1, h2, h3, h4, h5, h6⟩ := h
  refine ⟨va_K.moved hW.alike h1, fun w hw => ?_, ?_, by rw [hU]; exact Nat.lt_of_lt_of_le h4 hS.1, fun q hq => h5 q (by rw [hU] at hq; exact Nat.le_trans hS.1 hq), h6⟩
  · obtain ⟨_, _, _, _, rfl⟩ := nw_nest hw
    exact va_Nw.warmM hW (h2 _ hw)
  · rw [hU]
    exact (va_X.moved hW.alike h3).kept (hS.2.1 bs h4 h6)
theorem lvl_none {ad : PR → Nat} : ∀ (l : List (Option PV)) (i : Nat), lvl ad i (l ++ [none]) = lvl ad i l
  | [], i => rfl
  | none :: r, i => lvl_none r (i + 1)
  | some v :: r, i => by
    show (i, toV ad v) :: lvl ad (i + 1) (r ++ [none]) = (i, toV ad v) :: lvl ad (i + 1) r
    rw [lvl_none r (i + 1)]
theorem lvl_pad {ad : PR → Nat} : ∀ (n : Nat) (l : List (Option PV)), lvl ad 0 (lpad l n) = lvl ad 0 l
  | 0, l => rfl
  | n + 1, l => by
    show lvl ad 0 (lpad (l ++ [none]) n) = _
    rw [lvl_pad n, lvl_none]
theorem lpad_len : ∀ (n : Nat) (l : List (Option PV)), (lpad l n).length = l.length + n
  | 0, l => rfl
  | n + 1, l => by
    show (lpad (l ++ [none]) n).length = _
    rw [lpad_len n, List.length_append]
    show l.length + 1 + n = _
    omega
theorem lpad_get : ∀ (n : Nat) (l : List (Option PV)) (k : Nat) (v : PV), (lpad l n)[k]? = some (some v) → l[k]? = some (some v)
  | 0, l, k, v, h => h
  | n + 1, l, k, v, h => by
    have h2 := lpad_get n (l ++ [none]) k v h
    by_cases hk : k < l.length
    · rw [List.getElem?_append_left hk] at h2; exact h2
    · rw [List.getElem?_append_right (by omega)] at h2
      cases hkl : k - l.length with
      | zero => rw [hkl] at h2; cases h2
      | succ j => rw [hkl] at h2; cases h2
theorem lent_lvl {ad : PR → Nat} : ∀ (as : List PV) (i : Nat), lvl ad i (lent as) = lv_args i (as.map (toV ad))
  | [], i => rfl
  | v :: r, i => by
    unfold lent
    show _ = (i, toV ad v) :: lv_args (if (toV ad v).category = 2 then i + 2 else i + 1) (r.map (toV ad))
    rw [toV_cat]
    by_cases h : cat v = 2
    · rw [if_pos h, if_pos h]
      show (i, toV ad v) :: lvl ad (i + 1 + 1) (lent r) = _
      rw [lent_lvl r]
    · rw [if_neg h, if_neg h]
      show (i, toV ad v) :: lvl ad (i + 1) (lent r) = _
      rw [lent_lvl r]
theorem lent_len {ad : PR → Nat} : ∀ (as : List PV), (lg_sl (as.map (toV ad))).length = (lent as).length
  | [] => rfl
  | v :: r => by
    unfold lent
    show (lg_sl (toV ad v :: r.map (toV ad))).length = _
    unfold lg_sl
    rw [List.flatMap_cons, List.length_append]
    have ih := lent_len (ad := ad) r
    unfold lg_sl at ih
    rw [ih, toV_cat]
    by_cases h : cat v = 2
    · rw [if_pos h, if_pos h]; simp; omega
    · rw [if_neg h, if_neg h]; simp; omega
theorem lent_ok : ∀ (as : List PV), SV as → ∀ (k : Nat) (v : PV), (lent as)[k]? = some (some v) → vok v = true
  | [], _, k, v, h => by simp [lent] at h
  | w :: r, hs, k, v, h => by
    unfold lent at h
    by_cases hc : cat w = 2
    · rw [if_pos hc] at h
      match k, h with
      | 0, h => cases h; exact sv_h hs
      | 1, h => cases h
      | k + 2, h => exact lent_ok r (sv_t hs) k v h
    · rw [if_neg hc] at h
      match k, h with
      | 0, h => cases h; exact sv_h hs
      | k + 1, h => exact lent_ok r (sv_t hs) k v h
theorem lr_entry {as : List PV} {n : Nat} (hs : SV as) (hn : (lent as).length ≤ n) : LR ad n (lpad (lent as) (n - (lent as).length)) ((lg_sl (as.map (toV ad)) ++ List.replicate (n - (lg_sl (as.map (toV ad))).length) Slot.unset).toArray) := by
  refine ⟨by rw [lpad_len]; omega, ?_, fun k v h => lent_ok as hs k v (lpad_get _ _ k v h)⟩
  rw [lvl_pad, lent_lvl]
  exact lv_entry (as.map (toV ad)) (by rw [lent_len]; exact hn)
section ROWS
variable {p : Program} {l : Launch} {e : Env} {R : Room} {s : State} {mi : MethodId} {args : Array Value} {below : List Frame} {meth : Method} {c : Code} {H : Heap} {locs : List Loc} {cells slots : Nat} {Q : State → Prop} {pc : Nat} {ls : Array Slot} {st0 rest : List Value} {m m2 : PM} {v : Option PV}
/-- what a call brings -/
def Qc0 (A : AC) (D : va_G) (ad : PR → Nat) (Ba : Nat → Prop) (L9 : Nat) (xs : Nat → Int32) (v : Option PV) (m2 : PM) : Array Value → State → Outcome → State → Prop := fun _ st oc t => oc = .returned (v.map (toV ad)) ∧ (HR A D ad L9 xs m2 t.heap ∧ va_D Ba (wd A ad m2) ∧ ∀ u, v = some u → vok u = true) ∧ va_F Ba st t
theorem call_row {a : Array Value} (hr : va_Run p l e R s mi args below meth c H locs cells slots 0 0 (F0 mi pc ls st0) rest (Qc0 A D ad Ba L9 xs v m2 a) Ba) (hS : va_S Ba s.heap H locs)
    (kk : ∀ (H1 : Heap) (locs1 : List Loc), HR A D ad L9 xs m2 H1 → va_D Ba (wd A ad m2) → (∀ u, v = some u → vok u = true) → va_S Ba s.heap H1 locs1 → W p l e R s mi args below meth c H1 locs1 cells slots Q (F0 mi (pc + 3) ls ((v.map (toV ad)).toList ++ rest))) : W p l e R s mi args below meth c H locs cells slots Q (F0 mi pc ls st0) := by
  intro T hT X
  obtain ⟨v2, st₀, t, T', L, h0, X', hL, e1, e2, ⟨hv, ⟨hb, hd9, hk9⟩, hz, hk⟩, st⟩ := hr T hT X
  cases hv
  rw [h0] at hz hk
  obtain ⟨t2, a1, b1⟩ := kk T'.heap (locs ++ L) (by rw [e1]; exact hb) hd9 hk9
    ⟨Nat.le_trans hS.1 (by rw [e1]; exact hz), fun q h1 h2 => by rw [e1, hk q (Nat.lt_of_lt_of_le h1 hS.1) h2]; exact hS.2.1 q h1 h2, fun q hq => by
      rcases List.mem_append.mp hq with h | h
      · exact hS.2.2 q h
      · exact hL q h⟩ T' rfl X'
  exact ⟨t2, st t2 a1, b1⟩
end ROWS
end GO
