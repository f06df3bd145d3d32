/-! a method of the class that may throw: its contract, out of its run -/
section
def exC (x : Nat) : String := if x = 40 then "java/lang/IndexOutOfBoundsException" else if x = 50 then "java/lang/IllegalArgumentException" else "java/lang/IllegalStateException"
def nmX : List String := ["java/lang/RuntimeException", "java/lang/Exception"]
def tblB (w : Cond) : Bool := lw_tbl.any fun z => decide (z = w)
theorem tblB_in {w : Cond} (h : tblB w = true) : w ∈ lw_tbl := by
  obtain ⟨z, hz, e⟩ := List.any_eq_true.mp h
  rw [← of_decide_eq_true e]
  exact hz
theorem tblB_bw {w : Cond} (h : (tblB w && goodWord w) = true) : w ∈ BW := by
  rw [Bool.and_eq_true] at h
  exact List.mem_filter.mpr ⟨tblB_in h.1, h.2⟩
def strOK (k : Nat) : Bool := lw_tbl.any fun w => match w with
  | .stringRef o i _ => decide (o = "HotPanLocks") && Nat.beq i k
  | _ => false
theorem strOK_in {k : Nat} (h : strOK k = true) : ∃ tx, Cond.stringRef "HotPanLocks" k tx ∈ lw_tbl := by
  obtain ⟨w, hw, h2⟩ := List.any_eq_true.mp h
  split at h2
  · rw [Bool.and_eq_true] at h2
    cases of_decide_eq_true h2.1
    cases Nat.eq_of_beq_eq_true h2.2
    exact ⟨_, hw⟩
  · cases h2
def thW (x : Nat) : List Cond := vx_atS "HotPanLocks" (x + 4) (exC x) nmX
def isXW (w : Cond) : Bool := match w with
  | .castable _ _ => true
  | .declares _ => true
  | _ => false
def thB (w : Cond) : Bool := vx_ot w && tblB w && (goodWord w || isXW w)
set_option maxRecDepth 100000 in
theorem th_a40 : (thW 40).all thB = true := by decide +kernel
set_option maxRecDepth 100000 in
theorem th_a50 : (thW 50).all thB = true := by decide +kernel
set_option maxRecDepth 100000 in
theorem th_a58 : (thW 58).all thB = true := by decide +kernel
def thR (x : Nat) : Bool := (tblB (Cond.classLink "HotPanLocks" x (exC x)) && goodWord (Cond.classLink "HotPanLocks" x (exC x))) && (tblB (Cond.initialized (exC x)) && goodWord (Cond.initialized (exC x))) && Bundle.fit (exC x) && tblB (.castable (exC x) (exC x))
set_option maxRecDepth 100000 in
theorem th_r40 : thR 40 = true := by decide +kernel
set_option maxRecDepth 100000 in
theorem th_r50 : thR 50 = true := by decide +kernel
set_option maxRecDepth 100000 in
theorem th_r58 : thR 58 = true := by decide +kernel
theorem th_nm : ∀ n ∈ nmX, Bundle.fit n = true := by decide +kernel
theorem th_of {x : Nat} (h : x = 40 ∨ x = 50 ∨ x = 58) : (thW x).all thB = true ∧ thR x = true := by
  rcases h with rfl | rfl | rfl
  · exact ⟨th_a40, th_r40⟩
  · exact ⟨th_a50, th_r50⟩
  · exact ⟨th_a58, th_r58⟩
/-- where a method throws -/
def site1 (M : MI) (pc x : Nat) : Bool := match asc (mT M) (pc + 3), asc (mT M) (pc + 4), asc (mT M) (pc + 6), asc (mT M) (pc + 9) with
  | some (.dup, 1), some (.ldc k, 2), some (.invokespecial j, 3), some (.athrow, 1) => strOK k && Nat.beq j (x + 4)
  | _, _, _, _ => false
def siteB (M : MI) : Bool := (mT M).all fun e => match e.2.1 with
  | .new x => (Nat.beq x 40 || Nat.beq x 50 || Nat.beq x 58) && site1 M e.1 x
  | _ => true
theorem site_of {M : MI} {pc x : Nat} (hB : siteB M = true) (h : asc (mT M) pc = some (.new x, 3)) : (x = 40 ∨ x = 50 ∨ x = 58) ∧ ∃ k tx, asc (mT M) (pc + 3) = some (.dup, 1) ∧ asc (mT M) (pc + 4) = some (.ldc k, 2) ∧ asc (mT M) (pc + 6) = some (.invokespecial (x + 4), 3) ∧ asc (mT M) (pc + 9) = some (.athrow, 1) ∧ Cond.stringRef "HotPanLocks" k tx ∈ lw_tbl := by
  have h2 := List.all_eq_true.mp hB _ (asc_mem h)
  dsimp only at h2
  rw [Bool.and_eq_true, Bool.or_eq_true, Bool.or_eq_true] at h2
  obtain ⟨h3, h4⟩ := h2
  refine ⟨?_, ?_⟩
  · rcases h3 with (h3 | h3) | h3
    · exact Or.inl (Nat.eq_of_beq_eq_true h3)
    · exact Or.inr (Or.inl (Nat.eq_of_beq_eq_true h3))
    · exact Or.inr (Or.inr (Nat.eq_of_beq_eq_true h3))
  · unfold site1 at h4
    split at h4
    · next k j e1 e2 e3 e4 =>
      rw [Bool.and_eq_true] at h4
      cases Nat.eq_of_beq_eq_true h4.2
      obtain ⟨tx, hx⟩ := strOK_in h4.1
      exact ⟨k, tx, e1, e2, e3, e4, hx⟩
    · cases h4
/-- what holds of a start, besides TB, where something may be thrown -/
def EX (Ba : Nat → Prop) (U : State) : Prop := (∀ w ∈ lw_tbl, isXW w = true → va_Nw w U) ∧ (∀ k tx, Cond.stringRef "HotPanLocks" k tx ∈ lw_tbl → ∃ a, vk_R "HotPanLocks" k tx a U) ∧ vx_Zq Bundle.tN "UNASSIGNED_STACK" Bundle.steD Ba U U.heap ∧ vx_Zq Bundle.tN "SUPPRESSED_SENTINEL" Bundle.listD Ba U U.heap ∧ ∀ x y, (x = 40 ∨ x = 50 ∨ x = 58) → (y = 40 ∨ y = 50 ∨ y = 58) → ¬ x = y → va_Nc (exC x) (exC y) U
theorem ex_moved {Ba : Nat → Prop} {s U : State} {H : Heap} {locs : List Loc} (h : EX Ba s) (hS : va_S Ba s.heap H locs) (hU : U.heap = H) (hW : s.WarmedH U.vm) : EX Ba U := by
  refine ⟨fun w hw hx => ?_, fun k tx hk => ?_, ?_, ?_, fun x y hx hy hn => (h.2.2.2.2 x y hx hy hn).moved hW.alike⟩
  · have k := h.1 w hw hx
    unfold isXW at hx
    split at hx
    · exact va_Nw.warmC hW k
    · exact va_Nw.warmD hW k
    · cases hx
  · obtain ⟨a, ha⟩ := h.2.1 k tx hk
    exact ⟨a, vk_R.warm hW ha⟩
  · rw [hU]; exact vx_Zq.moved hW.alike (h.2.2.1.kept hS.2.1)
  · rw [hU]; exact vx_Zq.moved hW.alike (h.2.2.2.1.kept hS.2.1)
theorem ex_calling {Ba : Nat → Prop} {U : State} {g : JFrame} {mk : MethodId} {a : Array Value} (h : EX Ba U) : EX Ba (U.calling g mk a) := by
  refine ⟨fun w hw hx => ?_, fun k tx hk => ?_, vx_Zq.moved (u := U) (U := U.calling g mk a) (Vm.Alike.refl U.vm) h.2.2.1, vx_Zq.moved (u := U) (U := U.calling g mk a) (Vm.Alike.refl U.vm) h.2.2.2.1, fun x y hx hy hn => va_Nc.moved (u := U) (U := U.calling g mk a) (Vm.Alike.refl U.vm) (h.2.2.2.2 x y hx hy hn)⟩
  · have k := h.1 w hw hx
    unfold isXW at hx
    split at hx
    · exact va_Nw.same rfl (u := U) rfl k
    · exact va_Nw.same rfl (u := U) rfl k
    · cases hx
  · obtain ⟨b, hb⟩ := h.2.1 k tx hk
    exact ⟨b, vk_R.same rfl hb⟩
theorem ex_cast {Ba : Nat → Prop} {U : State} {A : Array Value} {x : Nat} (h : EX Ba U) (hx : x = 40 ∨ x = 50 ∨ x = 58) : (Cond.castable (exC x) (exC x)).before A U = true := by
  have t2 := (th_of hx).2
  unfold thR at t2
  rw [Bool.and_eq_true] at t2
  exact va_Nw.use rfl (h.1 _ (tblB_in t2.2) rfl)
def mRmX (M : MI) : Room := { frames := mFr M, cells := 1, slots := 6, locals := mLo M }
def mPcX (A : AC) (D : va_G) (ad : PR → Nat) (Ba : Nat → Prop) (bs L9 : Nat) (xs : Nat → Int32) (as : List PV) (m : PM) : Array Value → State → Prop := va_Pc (as.map (toV ad)) (fun U => HR A D ad L9 xs m U.heap ∧ TB A D Ba bs L9 xs U ∧ EX Ba U)
def QcO (A : AC) (D : va_G) (ad : PR → Nat) (Ba : Nat → Prop) (L9 : Nat) (xs : Nat → Int32) (o : OC) (m2 : PM) : Array Value → State → Outcome → State → Prop := match o with
  | .inl v => Qc0 A D ad Ba L9 xs v m2
  | .inr _ => fun _ _ _ _ => False
def XCO (A : AC) (D : va_G) (ad : PR → Nat) (Ba : Nat → Prop) (L9 : Nat) (xs : Nat → Int32) (o : OC) (m2 : PM) : String → State → State → Prop := match o with
  | .inl _ => fun _ _ _ => False
  | .inr x => fun E st t => E = exC x ∧ (HR A D ad L9 xs m2 t.heap ∧ va_D Ba (wd A ad m2)) ∧ va_F Ba st t
section
variable {A : AC} {D : va_G} {ad : PR → Nat} {Ba : Nat → Prop} {bs L9 : Nat} {xs : Nat → Int32}
theorem hr_grown {m : PM} {H H1 : Heap} (h : HR A D ad L9 xs m H) (k : ∀ q : Nat, q < H.size → H1[q]? = H[q]?) : HR A D ad L9 xs m H1 := ⟨h.1.kept (fun i q hq => k q.1 (h.1 i q hq).lt), h.2⟩
theorem pcx_pre {s : State} {H : Heap} {locs : List Loc} {as : List PV} {m : PM} (hT : TB A D Ba bs L9 xs s) (hE : EX Ba s) (hS : va_S Ba s.heap H locs) (hP : HR A D ad L9 xs m H) : FrameBlind (mPcX A D ad Ba bs L9 xs as m) ∧ ∀ U : State, U.heap = H → s.WarmedH U.vm → mPcX A D ad Ba bs L9 xs as m (as.map (toV ad)).toArray U :=
  ⟨fun a U g mk q => ⟨q.1, q.2.1, tb_calling q.2.2.1, ex_calling q.2.2.2⟩, fun U hU hW => ⟨rfl, by rw [hU]; exact hP, tb_moved hT hS hU hW, ex_moved hE hS hU hW⟩⟩
theorem met_thr (hw : WOK) (hdcs : ∀ o, ∀ q ∈ clk o, dcG q.2.2) (had : ad (10, 0, 0) = bs) {l : Launch} (hl : l.stackTraces = false) {M : MI} {as : List PV} {m m2 : PM} {o : OC} (hg : miG M) (hdc : dcG M) (h6 : 6 ≤ mFr M) (h82 : 82 ≤ mLo M) (hD0 : va_D Ba (wd A ad m)) (hn : (lent as).length ≤ mN M) (hs : SV as) (hsite : siteB M = true) (hO : mO M = 4)
    (hA : An M 0 (lpad (lent as) (mN M - (lent as).length)) [] m o m2) : vx_Met l (mY M) (mWs M) (mRmX M) (mPcX A D ad Ba bs L9 xs as m) (QcO A D ad Ba L9 xs o m2) (XCO A D ad Ba L9 xs o m2) 1 6 Ba := by
  obtain ⟨g1, g2, g3, g4, g5⟩ := hg
  obtain ⟨pcE, LE, stE, ⟨n, hn9⟩, hout⟩ := hA
  refine vx_ofW (cc := mB M) (maxL := mN M) (ret := mRet M) g1 rfl ?_
  intro p e s mi args below meth c s₁ B hml htab hv0
  obtain ⟨rfl, hP, hT, hE⟩ := hv0
  have hts := atoms_spec (ws := mWs M) B.pre
  have hown : s.vm.findClass (mY M).cls = some mi.cls := findClass_of_methodNamed B.named
  have hbw : ∀ w ∈ BW, w.before (as.map (toV ad)).toArray s = true := fun w hw => hts w (List.mem_cons_of_mem _ hw)
  rw [lg_entry_eq]
  refine go_ok hw hdcs had l n M 0 _ [] m _ hn9 p e _ s mi _ below meth c s.heap [] 0 0 _ _ ⟨B.exec, B.bytes, hml, by rw [g5]; exact hown, hbw, B.returns, B.notSynchronized, Nat.le_refl _, Nat.le_refl _, Nat.le_trans (by decide) h6, Nat.le_trans (by decide) h82, hdc, hT⟩ (Nat.zero_le _) (Nat.zero_le _) hP hD0 va_S.rf (lr_entry hs hn) (fun v h => nomatch h) ?_
  intro H1 locs1 ls1 hP1 hD1 hS1 hl1 hs1
  cases o with
  | inl v =>
    refine W.widen (Nat.zero_le 1) (Nat.zero_le 6) ?_
    exact vx_ret (end_row B.exec B.bytes B.returns B.notSynchronized hdc hP1 hD1 hs1 hS1 (sm_out_inl hout))
  | inr x =>
    obtain ⟨h1, h2⟩ := sm_out_inr hout
    obtain ⟨hx, k, tx, e3, e4, e6, e9, hk⟩ := site_of hsite h1
    obtain ⟨t1, t2⟩ := th_of hx
    unfold thR at t2
    rw [Bool.and_eq_true, Bool.and_eq_true, Bool.and_eq_true] at t2
    obtain ⟨⟨⟨t2, t3⟩, t4⟩, _⟩ := t2
    obtain ⟨sa, hsa⟩ := hE.2.1 k tx hk
    have own : s.vm.findClass "HotPanLocks" = some mi.cls := by
      have h9 : RO (mO M) = "HotPanLocks" := by rw [hO]; rfl
      rw [← h9, g5]
      exact hown
    have hat : ∀ w ∈ vx_atS "HotPanLocks" (x + 4) (exC x) nmX, vx_ot w = true ∧ w.before (as.map (toV ad)).toArray s = true := by
      intro w hw9
      have h9 := List.all_eq_true.mp t1 w hw9
      unfold thB at h9
      rw [Bool.and_eq_true, Bool.and_eq_true, Bool.or_eq_true] at h9
      obtain ⟨⟨h8, h7⟩, h9⟩ := h9
      refine ⟨h8, ?_⟩
      rcases h9 with hgw | hgw
      · exact hbw w (List.mem_filter.mpr ⟨tblB_in h7, hgw⟩)
      · have k := hE.1 w (tblB_in h7) hgw
        unfold isXW at hgw
        split at hgw
        · exact va_Nw.use rfl k
        · exact va_Nw.use rfl k
        · cases hgw
    have w1 := tblB_bw t2
    have w2 := tblB_bw t3
    dsimp only at h1 h2 hP1 hD1 hl1 hs1 ⊢
    rw [h2]
    refine vx_throwS (own := "HotPanLocks") (cls := exC x) (text := tx) (names := nmX) (ik := x) (is := k) (ic := x + 4) (sa := sa) (A := Ba) B.exec B.bytes hl own t4 th_nm (hbw _ w1) (hbw _ w2) hsa (fun w hw9 => (hat w hw9).2) ?_ hE.2.2.1 hE.2.2.2.1 hS1 (hl1.2.1.1.trans hml.symm) (dc_at hdc h1) (dc_at hdc e3) (dc_at hdc e4) (dc_at hdc e6) (dc_at hdc e9) (fun z hz => (htab z hz).elim) ?_ ?_ (Nat.le_refl _) (Nat.le_refl _) B.notSynchronized ?_ hS1.2.2 (Nat.le_refl _) (Nat.le_refl _)
    · intro w hw9
      rcases List.mem_cons.mp hw9 with rfl | hw9
      · have h9 := bw_gw w1
        unfold vx_ot
        rw [h9, Bool.or_true]
      · rcases List.mem_cons.mp hw9 with rfl | hw9
        · have h9 := bw_gw w2
          unfold vx_ot
          rw [h9, Bool.or_true]
        · exact (hat w hw9).1
    · exact Nat.lt_of_lt_of_le (show 2 + 3 < 6 by decide) h6
    · exact Nat.le_trans (show 0 + (13 * (2 + 1) + 43) ≤ 82 by decide) h82
    · intro t ht hz hq
      exact ⟨rfl, ⟨hr_grown hP1 hq, hD1⟩, Nat.le_trans hS1.1 hz, fun q q1 q2 => by rw [hq q (Nat.lt_of_lt_of_le q1 hS1.1)]; exact hS1.2.1 q q1 q2⟩
end
end
