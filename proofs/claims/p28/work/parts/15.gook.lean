section GK
variable {A : AC} {D : va_G} {ad : PR → Nat} {Ba : Nat → Prop} {bs L9 : Nat} {xs : Nat → Int32}
section INS
variable {p : Program} {l : Launch} {e : Env} {R : Room} {s : State} {mi : MethodId} {args : Array Value} {below : List Frame} {meth : Method} {c : Code} {H : Heap} {locs : List Loc} {cells slots : Nat} {Q : State → Prop}
variable {M : MI} {pc pc2 n : Nat} {ls : Array Slot} {L L2 : List (Option PV)} {st st2 : List PV} {m m2 : PM} {i : Instr}
theorem ins_ok (hw : WOK) (had : ad (10, 0, 0) = bs) (C0 : Cx A D Ba bs L9 xs M p R s mi args meth c) (hcl : cells ≤ R.cells) (hsl : slots ≤ R.slots) (hP : HR A D ad L9 xs m H) (hD : va_D Ba (wd A ad m)) (hS : va_S Ba s.heap H locs) (hl : LR ad (mN M) L ls) (hs : SV st)
    (hd : decode (mB M) pc = .ok (i, n)) (h : sm_ins (mO M) i n pc L st m = some (pc2, L2, st2, m2))
    (K : ∀ (H1 : Heap) (locs1 : List Loc) (ls1 : Array Slot), HR A D ad L9 xs m2 H1 → va_D Ba (wd A ad m2) → va_S Ba s.heap H1 locs1 → LR ad (mN M) L2 ls1 → SV st2 → W p l e R s mi args below meth c H1 locs1 cells slots Q (F0 mi pc2 ls1 (st2.map (toV ad)))) : W p l e R s mi args below meth c H locs cells slots Q (F0 mi pc ls (st.map (toV ad))) := by
  obtain ⟨hx, hb, hml, hown, hts, hr, hlk, hRf, hRl, h1f, h30, hdc, hK, hN, hX, hbl, hA, hbA⟩ := C0
  unfold sm_ins at h
  cases ha : sm_a i n pc L st m with
  | some r =>
    rw [ha] at h; cases h
    exact sa_ok hx hb hl hs hd ha (fun eL em h2 => by subst eL; subst em; exact K H locs ls hP hD hS hl h2)
  | none =>
    rw [ha] at h
    cases hb2 : sm_b i n pc L st m with
    | some r =>
      rw [hb2] at h; cases h
      exact sb_ok hx hb hl hs hd hb2 (fun ls2 em h1 h2 => by subst em; exact K H locs ls2 hP hD hS h1 h2)
    | none =>
      rw [hb2] at h
      cases hc : sm_c i n pc L st m with
      | some r =>
        rw [hc] at h; cases h
        exact sc_ok hx hb hs hd hc (fun eL em h2 => by subst eL; subst em; exact K H locs ls hP hD hS hl h2)
      | none =>
        rw [hc] at h
        cases hd2 : sm_d i n pc L st m with
        | some r =>
          rw [hd2] at h; cases h
          exact sd_ok hx hb hs hd hd2 (fun eL em h2 => by subst eL; subst em; exact K H locs ls hP hD hS hl h2)
        | none =>
          rw [hd2] at h
          exact se_ok hw hx hb hml hown hts hK (Nat.le_trans h1f hRf) (Nat.le_trans h30 hRl) hcl hsl hX hbl hbA had hP hD hS hl hs hd h (fun H1 locs1 eL h1 h2 h3 h4 => by subst eL; exact K H1 locs1 ls h1 h2 h3 hl h4)
end INS
theorem dc_at {M : MI} {pc n : Nat} {i : Instr} (h : dcG M) (h1 : asc (mT M) pc = some (i, n)) : decode (mB M) pc = .ok (i, n) := by
  have h2 := h (pc, i, n) (asc_mem h1)
  dsimp only at h2
  exact h2
/-- a method's contract, out of its run -/
def mWs (M : MI) : List Cond := Cond.code (mY M) (mB M) (mN M) (mRet M) :: BW
def mRm (M : MI) : Room := { frames := mFr M, cells := 0, slots := 0, locals := mLo M }
def mPc (A : AC) (D : va_G) (ad : PR → Nat) (Ba : Nat → Prop) (bs L9 : Nat) (xs : Nat → Int32) (as : List PV) (m : PM) : Array Value → State → Prop := va_Pc (as.map (toV ad)) (fun U => HR A D ad L9 xs m U.heap ∧ TB A D Ba bs L9 xs U)
/-- what a run is worth -/
def GoOK (A : AC) (D : va_G) (ad : PR → Nat) (Ba : Nat → Prop) (bs L9 : Nat) (xs : Nat → Int32) (l : Launch) (M : MI) (pc : Nat) (L : List (Option PV)) (st : List PV) (m : PM) (r : PS) : Prop :=
  ∀ (p : Program) (e : Env) (R : Room) (s : State) (mi : MethodId) (args : Array Value) (below : List Frame) (meth : Method) (c : Code) (H : Heap) (locs : List Loc) (cells slots : Nat) (Q : State → Prop) (ls : Array Slot),
    Cx A D Ba bs L9 xs M p R s mi args meth c → cells ≤ R.cells → slots ≤ R.slots → HR A D ad L9 xs m H → va_D Ba (wd A ad m) → va_S Ba s.heap H locs → LR ad (mN M) L ls → SV st →
    (∀ (H1 : Heap) (locs1 : List Loc) (ls1 : Array Slot), HR A D ad L9 xs r.2.2.2 H1 → va_D Ba (wd A ad r.2.2.2) → va_S Ba s.heap H1 locs1 → LR ad (mN M) r.2.1 ls1 → SV r.2.2.1 → W p l e R s mi args below meth c H1 locs1 cells slots Q (F0 mi r.1 ls1 (r.2.2.1.map (toV ad)))) →
    W p l e R s mi args below meth c H locs cells slots Q (F0 mi pc ls (st.map (toV ad)))
theorem sm_ret_ok {M : MI} {pc : Nat} {st : List PV} {v : Option PV} (h : sm_ret M pc st = some v) :
    (asc (mT M) pc = some (.ireturn, 1) ∧ ∃ (x : Int32) (ty : FieldType), st = [vI x] ∧ mRet M = some ty ∧ narrow ty (.int x) = .int x ∧ v = some (vI x)) ∨
    (asc (mT M) pc = some (.lreturn, 1) ∧ ∃ x : Int64, st = [vL x] ∧ mRet M = some .long ∧ v = some (vL x)) ∨
    (asc (mT M) pc = some (.dreturn, 1) ∧ ∃ x : UInt64, st = [vD x] ∧ mRet M = some .double ∧ v = some (vD x)) ∨
    (asc (mT M) pc = some (.areturn, 1) ∧ ∃ x : Option PR, st = [.inr (.inr (.inr x))] ∧ mRet M = some (.object "HotPanLocks$State") ∧ v = some (.inr (.inr (.inr x)))) ∨
    (asc (mT M) pc = some (.return_, 1) ∧ st = [] ∧ mRet M = none ∧ v = none) := by
  unfold sm_ret at h
  split at h
  · next h1 =>
    left
    refine ⟨h1, ?_⟩
    split at h
    · next x =>
      by_cases h2 : mRet M = some .int
      · rw [if_pos h2] at h; cases h
        exact ⟨x, _, rfl, h2, rfl, rfl⟩
      · rw [if_neg h2] at h
        by_cases h3 : mRet M = some .boolean
        · rw [if_pos h3] at h
          by_cases h4 : x = 0
          · rw [if_pos h4] at h; cases h; subst h4
            exact ⟨0, _, rfl, h3, by decide, rfl⟩
          · rw [if_neg h4] at h
            by_cases h5 : x = 1
            · rw [if_pos h5] at h; cases h; subst h5
              exact ⟨1, _, rfl, h3, by decide, rfl⟩
            · rw [if_neg h5] at h; cases h
        · rw [if_neg h3] at h; cases h
    · cases h
  · next h1 =>
    right; left
    refine ⟨h1, ?_⟩
    split at h
    · next x =>
      by_cases h2 : mRet M = some .long
      · rw [if_pos h2] at h; cases h; exact ⟨x, rfl, h2, rfl⟩
      · rw [if_neg h2] at h; cases h
    · cases h
  · next h1 =>
    right; right; left
    refine ⟨h1, ?_⟩
    split at h
    · next x =>
      by_cases h2 : mRet M = some .double
      · rw [if_pos h2] at h; cases h; exact ⟨x, rfl, h2, rfl⟩
      · rw [if_neg h2] at h; cases h
    · cases h
  · next h1 =>
    right; right; right; left
    refine ⟨h1, ?_⟩
    split at h
    · next x =>
      by_cases h2 : mRet M = some (.object "HotPanLocks$State")
      · rw [if_pos h2] at h; cases h; exact ⟨x, rfl, h2, rfl⟩
      · rw [if_neg h2] at h; cases h
    · cases h
  · next h1 =>
    right; right; right; right
    refine ⟨h1, ?_⟩
    split at h
    · by_cases h2 : mRet M = none
      · rw [if_pos h2] at h; cases h; exact ⟨rfl, h2, rfl⟩
      · rw [if_neg h2] at h; cases h
    · cases h
  · cases h
/-- the end of a method -/
theorem end_row {p : Program} {l : Launch} {e : Env} {R : Room} {s : State} {mi : MethodId} {args : Array Value} {below : List Frame} {meth : Method} {c : Code} {H : Heap} {locs : List Loc} {cells slots : Nat} {M : MI} {pc : Nat} {st : List PV} {v : Option PV} {m2 : PM} {ls : Array Slot}
    (hx : p.tables.exec = Jvm.exec) (hb : c.code = mB M) (hr : meth.sig.returnType = mRet M) (hlk : meth.locks = false) (hdc : dcG M) (hP : HR A D ad L9 xs m2 H) (hD : va_D Ba (wd A ad m2)) (hs : SV st) (hS : va_S Ba s.heap H locs) (h : sm_ret M pc st = some v) :
    W p l e R s mi args below meth c H locs cells slots (MQ below (Qc0 A D ad Ba L9 xs v m2) args s cells slots Ba) (F0 mi pc ls (st.map (toV ad))) := by
  rcases sm_ret_ok h with ⟨h1, x, ty, rfl, h2, h3, rfl⟩ | ⟨h1, x, rfl, h2, rfl⟩ | ⟨h1, x, rfl, h2, rfl⟩ | ⟨h1, x, rfl, h2, rfl⟩ | ⟨h1, rfl, h2, rfl⟩
  · exact W.zret hx hb (hr.trans h2) h3 (fun t ht hW => ⟨rfl, ⟨by rw [ht]; exact hP, hD, fun u hu => by cases hu <;> first | rfl | exact sv_h hs⟩, hS.F ht⟩) hS.2.2 (dc_at hdc h1) hlk
  · exact W.lret hx hb (hr.trans h2) (fun t ht hW => ⟨rfl, ⟨by rw [ht]; exact hP, hD, fun u hu => by cases hu <;> first | rfl | exact sv_h hs⟩, hS.F ht⟩) hS.2.2 (dc_at hdc h1) hlk
  · exact W.dret hx hb (hr.trans h2) (fun t ht hW => ⟨rfl, ⟨by rw [ht]; exact hP, hD, fun u hu => by cases hu <;> first | rfl | exact sv_h hs⟩, hS.F ht⟩) hS.2.2 (dc_at hdc h1) hlk
  · refine W.aret (v := toV ad (.inr (.inr (.inr x)))) hx hb (hr.trans h2) (Or.inl ⟨_, rfl⟩) ?_ (fun t ht hW => ⟨rfl, ⟨by rw [ht]; exact hP, hD, fun u hu => by cases hu <;> first | rfl | exact sv_h hs⟩, hS.F ht⟩) hS.2.2 (dc_at hdc h1) hlk
    cases x with
    | none => exact Or.inl rfl
    | some r => exact Or.inr ⟨_, rfl⟩
  · exact W.vret hx hb (hr.trans h2) (fun t ht hW => ⟨rfl, ⟨by rw [ht]; exact hP, hD, fun u hu => by cases hu <;> first | rfl | exact sv_h hs⟩, hS.F ht⟩) hS.2.2 (dc_at hdc h1) hlk
/-- a run to an answer gives the method's contract -/
theorem met_of {l : Launch} {M : MI} {as : List PV} {m m2 : PM} {v : Option PV} {pcE : Nat} {LE : List (Option PV)} {stE : List PV} (hg : miG M) (hdc : dcG M) (h1f : 1 ≤ mFr M) (h30 : 30 ≤ mLo M) (hD0 : va_D Ba (wd A ad m)) (hn : (lent as).length ≤ mN M) (hs : SV as)
    (G : GoOK A D ad Ba bs L9 xs l M 0 (lpad (lent as) (mN M - (lent as).length)) [] m (pcE, LE, stE, m2)) (hv : sm_ret M pcE stE = some v) :
    Met l (mY M) (mWs M) (mRm M) (mPc A D ad Ba bs L9 xs as m) (Qc0 A D ad Ba L9 xs v m2) 0 0 Ba := by
  obtain ⟨g1, g2, g3, g4, g5⟩ := hg
  refine Met.ofW (cc := mB M) (maxL := mN M) (ret := mRet M) g1 rfl ?_
  intro p e s mi args below meth c s₁ B hml hv0
  obtain ⟨rfl, hP, hT⟩ := hv0
  have hts := atoms_spec (ws := mWs M) B.pre
  have hown : s.vm.findClass (mY M).cls = some mi.cls := findClass_of_methodNamed B.named
  rw [lg_entry_eq]
  refine G p e _ s mi _ below meth c s.heap [] 0 0 _ _ ⟨B.exec, B.bytes, hml, by rw [g5]; exact hown, fun w hw => hts w (List.mem_cons_of_mem _ hw), B.returns, B.notSynchronized, Nat.le_refl _, Nat.le_refl _, h1f, h30, hdc, hT⟩ (Nat.zero_le _) (Nat.zero_le _) hP hD0 va_S.rf (lr_entry hs hn) (fun v h => nomatch h) ?_
  intro H1 locs1 ls1 hP1 hD1 hS1 hl1 hs1
  exact end_row B.exec B.bytes B.returns B.notSynchronized hdc hP1 hD1 hs1 hS1 hv
theorem good_in {ws : List Cond} (h : ∀ w ∈ ws, w ∈ BW) : GoodIn BW ws := fun w hw => ⟨h w hw, good_of_word (bw_gw (h w hw))⟩
theorem mws_in {M : MI} (hg : miG M) : ∀ w ∈ mWs M, w ∈ BW := fun w hw => (List.mem_cons.mp hw).elim (fun e => by rw [e]; exact hg.2.1) id
theorem pc_pre {s : State} {H : Heap} {locs : List Loc} {as : List PV} {m : PM} (hT : TB A D Ba bs L9 xs s) (hS : va_S Ba s.heap H locs) (hP : HR A D ad L9 xs m H) : FrameBlind (mPc A D ad Ba bs L9 xs as m) ∧ ∀ U : State, U.heap = H → s.WarmedH U.vm → mPc A D ad Ba bs L9 xs as m (as.map (toV ad)).toArray U :=
  ⟨fun a U g mk q => ⟨q.1, q.2.1, tb_calling q.2.2⟩, fun U hU hW => ⟨rfl, by rw [hU]; exact hP, tb_moved hT hS hU hW⟩⟩
set_option maxHeartbeats 4000000 in
theorem go_ok (hw : WOK) (hdcs : ∀ o, ∀ q ∈ clk o, dcG q.2.2) (had : ad (10, 0, 0) = bs) (l : Launch) : ∀ (n : Nat) (M : MI) (pc : Nat) (L : List (Option PV)) (st : List PV) (m : PM) (r : PS), sm_go n M pc L st m = some r → GoOK A D ad Ba bs L9 xs l M pc L st m r := by
  intro n
  induction n with
  | zero => intro M pc L st m r h; cases h
  | succ n ih =>
    intro M pc L st m r h p e R s mi args below meth c H locs cells slots Q ls C0 hcl hsl hP hD hS hl hs K
    obtain ⟨hx, hb, hml, hown, hts, hr, hlk, hRf, hRl, h1f, h30, hdc, hT⟩ := id C0
    unfold sm_go at h
    cases h1 : asc (mT M) pc with
    | none => rw [h1] at h; cases h
    | some q =>
      obtain ⟨i, len⟩ := q
      have hd : decode (mB M) pc = .ok (i, len) := dc_at hdc h1
      rw [h1] at h
      dsimp only at h
      cases h2 : sm_ins (mO M) i len pc L st m with
      | some q =>
        obtain ⟨pc2, L2, st2, m2⟩ := q
        rw [h2] at h
        exact ins_ok hw had C0 hcl hsl hP hD hS hl hs hd h2 (fun H1 locs1 ls1 a1 a2 a3 a4 a5 => ih M pc2 L2 st2 m2 r h p e R s mi args below meth c H1 locs1 cells slots Q ls1 C0 hcl hsl a1 a2 a3 a4 a5 K)
      | none =>
        rw [h2] at h
        dsimp only at h
        cases h3 : sm_cal M i st with
        | none =>
          rw [h3] at h
          dsimp only at h
          by_cases h4 : sm_stop i = true
          · rw [if_pos h4] at h; cases h
            exact K H locs ls hP hD hS hl hs
          · rw [if_neg h4] at h; cases h
        | some q =>
          obtain ⟨M2, as, rest⟩ := q
          rw [h3] at h
          dsimp only at h
          by_cases h4 : len = 3 ∧ sm_fit M M2 as rest = true
          · rw [if_pos h4] at h
            obtain ⟨rfl, hfit⟩ := h4
            simp only [sm_fit, Bool.and_eq_true, decide_eq_true_eq] at hfit
            obtain ⟨⟨⟨⟨⟨f1, f2⟩, f3⟩, f4⟩, f5⟩, f6⟩ := hfit
            cases h5 : sm_go n M2 0 (lpad (lent as) (mN M2 - (lent as).length)) [] m with
            | none => rw [h5] at h; cases h
            | some q =>
              obtain ⟨pcE, LE, stE, m2⟩ := q
              rw [h5] at h
              dsimp only at h
              cases h6 : sm_ret M2 pcE stE with
              | none => rw [h6] at h; cases h
              | some v =>
                rw [h6] at h
                dsimp only at h
                have G := ih M2 0 _ [] m _ h5
                have hRR : (mRm M2).frames + 1 ≤ R.frames ∧ 8 + (mN M2 + 11) + (mRm M2).locals ≤ R.locals := ⟨Nat.le_trans f1 hRf, Nat.le_trans f4 hRl⟩
                -- behind the call
                have after : SV rest → ∀ (H1 : Heap) (locs1 : List Loc), HR A D ad L9 xs m2 H1 → va_D Ba (wd A ad m2) → (∀ u, v = some u → vok u = true) → va_S Ba s.heap H1 locs1 → W p l e R s mi args below meth c H1 locs1 cells slots Q (F0 mi (pc + 3) ls ((v.map (toV ad)).toList ++ rest.map (toV ad))) := by
                  intro a4 H1 locs1 a1 a2 a6 a3
                  have k := ih M (pc + 3) L (v.toList ++ rest) m2 r h p e R s mi args below meth c H1 locs1 cells slots Q ls C0 hcl hsl a1 a2 a3 hl (fun u hu => by
                    rcases List.mem_append.mp hu with q | q
                    · cases v with
                      | none => cases q
                      | some z => exact a6 u (by rw [List.mem_singleton.mp q])
                    · exact a4 u q) K
                  cases v with
                  | none => exact k
                  | some z => exact k
                have hroom : 2 * (F0 mi pc ls (st.map (toV ad))).monitorRoom + ((rest.map (toV ad)).map fun v => v.category).sum ≤ 8 := lv_room (by rw [map_cat]; exact f5)
                have Sx : CallFix p mi c (mB M) (mN M) s args BW (RO (mO M)) := ⟨hx, hb, hml, hown, hts⟩
                unfold sm_cal at h3
                split at h3
                · next x =>
                  split at h3
                  · next M3 hc =>
                    by_cases h7 : mPar M3 ≤ st.length
                    · rw [if_pos h7] at h3; cases h3
                      obtain ⟨k1, g⟩ := hw.2.2.2.2.2.2.2.2.2.2 (mO M) _ (asc_mem hc)
                      have hdc2 := hdcs (mO M) _ (asc_mem hc)
                      have hsa : SV ((st.take (mPar M2)).reverse) := fun u hu => hs u (List.mem_of_mem_take (List.mem_reverse.mp hu))
                      have hsr : SV (st.drop (mPar M2)) := fun u hu => hs u (List.mem_of_mem_drop hu)
                      have hM := met_of (l := l) g hdc2 f2 f3 hD f6 hsa G h6
                      have hp := pc_pre (as := (st.take (mPar M2)).reverse) hT hS hP
                      refine call_row (rest := (st.drop (mPar M2)).map (toV ad)) (va_runS (As := ((st.take (mPar M2)).reverse).map (toV ad)) (rest := (st.drop (mPar M2)).map (toV ad)) Sx hM (va_cwS (mPar M2) hts (good_in (fun w hw2 => ?_)) rfl rfl rfl g.2.2.2.1 hRR) hp rfl ?_ hl.2.1.1 ?_ hroom hd ⟨hcl, hsl⟩) hS (after hsr)
                      · unfold va_wsS at hw2
                        rcases List.mem_append.mp hw2 with q | q
                        · simp only [List.mem_cons, List.not_mem_nil, or_false] at q
                          rcases q with rfl | rfl | rfl
                          · exact k1.1
                          · exact k1.2
                          · exact g.2.2.1
                        · exact mws_in g w q
                      · rw [List.length_map, List.length_reverse, List.length_take]; omega
                      · show st.map (toV ad) = _
                        rw [← List.map_reverse, List.reverse_reverse, ← List.map_append, List.take_append_drop]
                    · rw [if_neg h7] at h3; cases h3
                  · next M3 hc =>
                    by_cases h7 : mPar M3 ≤ st.length
                    · rw [if_pos h7] at h3; cases h3
                      obtain ⟨k1, g⟩ := hw.2.2.2.2.2.2.2.2.2.2 (mO M) _ (asc_mem hc)
                      have hdc2 := hdcs (mO M) _ (asc_mem hc)
                      have hsa : SV ((st.take (mPar M2)).reverse) := fun u hu => hs u (List.mem_of_mem_take (List.mem_reverse.mp hu))
                      have hsr : SV (st.drop (mPar M2)) := fun u hu => hs u (List.mem_of_mem_drop hu)
                      have hM := met_of (l := l) g hdc2 f2 f3 hD f6 hsa G h6
                      have hp := pc_pre (as := (st.take (mPar M2)).reverse) hT hS hP
                      obtain ⟨⟨host, k2⟩, k3⟩ := k1
                      have hi : (Cond.initialized (mY M2).cls).before args s = true := hts _ g.2.2.1
                      refine call_row (rest := (st.drop (mPar M2)).map (toV ad)) (va_runSN (As := ((st.take (mPar M2)).reverse).map (toV ad)) (rest := (st.drop (mPar M2)).map (toV ad)) Sx hM ⟨va_cnB (mPar M2) hts (good_in (mws_in g)) rfl rfl rfl (hT.2.1 _ k2) hi g.2.2.2.1 hRR, hts _ k3, trivial⟩ hp rfl ?_ hl.2.1.1 ?_ hroom hd ⟨hcl, hsl⟩) hS (after hsr)
                      · rw [List.length_map, List.length_reverse, List.length_take]; omega
                      · show st.map (toV ad) = _
                        rw [← List.map_reverse, List.reverse_reverse, ← List.map_append, List.take_append_drop]
                    · rw [if_neg h7] at h3; cases h3
                  · cases h3
                · next x =>
                  split at h3
                  · next M3 hc =>
                    split at h3
                    · next t k g0 hrc =>
                      split at h3
                      · next ht =>
                        cases h3
                        obtain ⟨k1, g⟩ := hw.2.2.2.2.2.2.2.2.2.2 (mO M) _ (asc_mem hc)
                        have hdc2 := hdcs (mO M) _ (asc_mem hc)
                        obtain ⟨k2, k3, k4, k5⟩ := k1
                        have hpl : mPar M2 < st.length := (List.getElem?_eq_some_iff.mp hrc).1
                        have etk : st.take (mPar M2 + 1) = st.take (mPar M2) ++ [vR t k g0] := by
                          rw [List.take_add_one, hrc]; rfl
                        have hsa : SV ((st.take (mPar M2 + 1)).reverse) := fun u hu => hs u (List.mem_of_mem_take (List.mem_reverse.mp hu))
                        have hsr : SV (st.drop (mPar M2 + 1)) := fun u hu => hs u (List.mem_of_mem_drop hu)
                        have hM := met_of (l := l) g hdc2 f2 f3 hD f6 hsa G h6
                        have hp := pc_pre (as := (st.take (mPar M2 + 1)).reverse) hT hS hP
                        have ear : ((st.take (mPar M2 + 1)).reverse).map (toV ad) = .ref (ad (t, k, g0)) :: ((st.take (mPar M2)).reverse).map (toV ad) := by
                          rw [etk, List.reverse_append]; rfl
                        have hvr : vok (vR t k g0) = true := hs _ (List.mem_of_getElem? hrc)
                        have hok := vok_ok hvr (tcl_ne ht)
                        obtain ⟨q0, hq, hq0⟩ := wd_at (A := A) (ad := ad) (m := m) hok
                        have hce : ∃ fs, ce A ad m (t, k, g0) = .inr (mO M2, fs) := by
                          have h10 := (okW_lt hok).1
                          rcases (show t = 0 ∨ t = 1 ∨ t = 2 ∨ t = 3 ∨ t = 4 ∨ t = 5 ∨ t = 6 ∨ t = 7 ∨ t = 8 ∨ t = 9 by omega) with rfl | rfl | rfl | rfl | rfl | rfl | rfl | rfl | rfl | rfl <;> simp [tcl] at ht <;> rw [← ht] <;> exact ⟨_, rfl⟩
                        obtain ⟨fs, hce⟩ := hce
                        rw [hce] at hq0
                        obtain ⟨qc, hqc, hqn⟩ := Option.map_eq_some_iff.mp k5
                        have hrv := va_recv hT.1 hP.1 hqc hq0
                        rw [hqn] at hrv
                        rw [ear] at hp
                        unfold mPc at hM hp
                        rw [ear] at hM hp
                        refine call_row (rest := (st.drop (mPar M2 + 1)).map (toV ad)) (va_runV (b := ad (t, k, g0)) (As := ((st.take (mPar M2)).reverse).map (toV ad)) (rest := (st.drop (mPar M2 + 1)).map (toV ad)) Sx hM (cwV (mPar M2) hts (good_in (fun w hw2 => ?_)) rfl rfl rfl ⟨rfl, g.2.2.2.1⟩ hRR) ⟨hp.1, hrv, hp.2⟩ rfl ?_ hl.2.1.1 ?_ hroom hd ⟨hcl, hsl⟩) hS (after hsr)
                        · unfold wsV at hw2
                          rcases List.mem_append.mp hw2 with q | q
                          · simp only [List.mem_cons, List.not_mem_nil, or_false] at q
                            rcases q with rfl | rfl | rfl | rfl
                            · exact k2
                            · exact k3
                            · exact k4
                            · exact g.2.2.1
                          · exact mws_in g w q
                        · rw [List.length_map, List.length_reverse, List.length_take]; omega
                        · show st.map (toV ad) = _
                          rw [← List.map_reverse, List.reverse_reverse]
                          have e3 : st = st.take (mPar M2) ++ vR t k g0 :: st.drop (mPar M2 + 1) := by
                            have e4 : st = st.take (mPar M2 + 1) ++ st.drop (mPar M2 + 1) := (List.take_append_drop _ _).symm
                            rw [etk, List.append_assoc] at e4
                            exact e4
                          have e5 := congrArg (List.map (toV ad)) e3
                          rw [List.map_append] at e5
                          exact e5
                      · cases h3
                    · cases h3
                  · cases h3
                · cases h3
          · rw [if_neg h4] at h; cases h
end GK
