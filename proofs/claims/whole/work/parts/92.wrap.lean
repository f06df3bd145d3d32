/-! the law's wrappers: a call of the class that may throw, and what is made of it -/
section
def ctO (x : Nat) : Nat := if x = 40 then 13 else if x = 50 then 15 else 17
def hhO (pe : Nat) (hs : List (Nat × Nat × Int)) : List (Nat × Nat × Nat × Nat) := hs.map fun q => (0, pe, q.1, ctO q.2.1)
def mWsW (M : MI) (hh : List (Nat × Nat × Nat × Nat)) : List Cond := Cond.codeWith (mY M) (mB M) (mN M) (mRet M) hh :: BW
/-- a handler: the thing thrown is laid down, and a code answered -/
def hOK (M : MI) (h : Nat) (v : Int) : Bool := match asc (mT M) h with
  | some (.astore k, 2) => decide (k < mN M) && (match asc (mT M) (h + 2), asc (mT M) (h + 3) with
    | some (.iconst w, 1), some (.ireturn, 1) => decide (w = v)
    | _, _ => false)
  | some (.astore_n k, 1) => decide ((k : Nat) < mN M) && (match asc (mT M) (h + 1), asc (mT M) (h + 2) with
    | some (.iconst w, 1), some (.ireturn, 1) => decide (w = v)
    | _, _ => false)
  | _ => false
def hclB (x : Nat) : Bool := tblB (Cond.classLink "HotPanLocksLaw" (ctO x) (exC x)) && goodWord (Cond.classLink "HotPanLocksLaw" (ctO x) (exC x))
set_option maxRecDepth 100000 in
theorem cl_b40 : hclB 40 = true := by decide +kernel
set_option maxRecDepth 100000 in
theorem cl_b50 : hclB 50 = true := by decide +kernel
set_option maxRecDepth 100000 in
theorem cl_b58 : hclB 58 = true := by decide +kernel
theorem cl_of {x : Nat} (h : x = 40 ∨ x = 50 ∨ x = 58) : Cond.classLink "HotPanLocksLaw" (ctO x) (exC x) ∈ BW ∧ ¬ ctO x = 0 := by
  rcases h with rfl | rfl | rfl
  · exact ⟨tblB_bw cl_b40, by decide⟩
  · exact ⟨tblB_bw cl_b50, by decide⟩
  · exact ⟨tblB_bw cl_b58, by decide⟩
variable {A : AC} {D : va_G} {ad : PR → Nat} {Ba : Nat → Prop} {bs L9 : Nat} {xs : Nat → Int32}
section
variable {p : Program} {l : Launch} {e : Env} {R : Room} {s : State} {mi : MethodId} {args : Array Value} {below : List Frame} {meth : Method} {c : Code} {H : Heap} {locs : List Loc} {cells slots : Nat}
theorem hnd_ok {M : MI} {h : Nat} {v : Int} {ls : Array Slot} {L : List (Option PV)} {q : Addr} {m2 : PM} (hk : hOK M h v = true) (hx : p.tables.exec = Jvm.exec) (hb : c.code = mB M) (hr : meth.sig.returnType = mRet M) (hI : mRet M = some .int) (hlk : meth.locks = false) (hdc : dcG M) (hP : HR A D ad L9 xs m2 H) (hD : va_D Ba (wd A ad m2)) (hS : va_S Ba s.heap H locs) (hl : LR ad (mN M) L ls) :
    W p l e R s mi args below meth c H locs cells slots (MQ below (Qc0 A D ad Ba L9 xs (some (vI (Int32.ofInt v))) m2) args s cells slots Ba) (F0 mi h ls [.ref q]) := by
  have fin : ∀ (pc : Nat) (ls2 : Array Slot), asc (mT M) pc = some (.iconst v, 1) → asc (mT M) (pc + 1) = some (.ireturn, 1) → W p l e R s mi args below meth c H locs cells slots (MQ below (Qc0 A D ad Ba L9 xs (some (vI (Int32.ofInt v))) m2) args s cells slots Ba) (F0 mi pc ls2 []) := by
    intro pc ls2 h1 h2
    refine lv_iconst hx hb (dc_at hdc h1) rfl ?_
    refine end_row (st := [vI (Int32.ofInt v)]) hx hb hr hlk hdc hP hD (fun u hu => by rw [List.mem_singleton.mp hu]; rfl) hS ?_
    unfold sm_ret
    rw [h2]
    dsimp only
    rw [if_pos hI]
    rfl
  unfold hOK at hk
  split at hk
  · next k h1 =>
    rw [Bool.and_eq_true] at hk
    obtain ⟨k1, k2⟩ := hk
    split at k2
    · next w h2 h3 =>
      cases of_decide_eq_true k2
      exact lv_astore hx hb (dc_at hdc h1) hl.2.1 (of_decide_eq_true k1) rfl (fun ls2 _ => fin _ ls2 h2 h3)
    · cases k2
  · next k h1 =>
    rw [Bool.and_eq_true] at hk
    obtain ⟨k1, k2⟩ := hk
    split at k2
    · next w h2 h3 =>
      cases of_decide_eq_true k2
      exact lv_astore_n hx hb (dc_at hdc h1) rfl hl.2.1 (of_decide_eq_true k1) rfl (fun ls2 _ => fin _ ls2 h2 h3)
    · cases k2
  · cases hk
end
/-- a wrapper's words -/
def wrG (M : MI) (hh : List (Nat × Nat × Nat × Nat)) : Bool := plainName (mY M).cls && (tblB (Cond.codeWith (mY M) (mB M) (mN M) (mRet M) hh) && goodWord (Cond.codeWith (mY M) (mB M) (mN M) (mRet M) hh)) && decide (mO M = 6) && decide (mRet M = some .int) && decide ((mY M).cls = "HotPanLocksLaw")
theorem met_wrap (hw : WOK) (hdcs : ∀ o, ∀ q ∈ clk o, dcG q.2.2) (had : ad (10, 0, 0) = bs) {l : Launch} (hlt : l.stackTraces = false) {M M2 : MI} {hs : List (Nat × Nat × Int)} {pe pcC pcR k x : Nat} {as : List PV} {m m2 m3 : PM} {o : OC} {r : Int32} {L0 : List (Option PV)}
    (hg : wrG M (hhO pe hs) = true) (hdc : dcG M) (hfit : sm_fit M M2 (vR 3 0 0 :: as) [vI 0, vR 9 0 0] = true) (hO2 : mO M2 = 4) (h6 : 6 ≤ mFr M2) (h82 : 82 ≤ mLo M2) (hsite : siteB M2 = true) (h1f : 1 ≤ mFr M) (h30 : 30 ≤ mLo M)
    (hL0 : lpad (lent (vR 3 0 0 :: as ++ [vR 9 0 0])) (mN M - (lent (vR 3 0 0 :: as ++ [vR 9 0 0])).length) = L0) (hn0 : (lent (vR 3 0 0 :: as ++ [vR 9 0 0])).length ≤ mN M)
    (h1 : sm_many k M (0, L0, [], m) = some (pcC, L0, as.reverse ++ vR 3 0 0 :: [vI 0, vR 9 0 0], m)) (h2 : asc (mT M) pcC = some (.invokevirtual x, 3)) (h3 : (x, 1, M2) ∈ clk 6) (hn : as.length = mPar M2) (hsa : SV as) (hD0 : va_D Ba (wd A ad m))
    (hA : An M2 0 (lpad (lent (vR 3 0 0 :: as)) (mN M2 - (lent (vR 3 0 0 :: as)).length)) [] m o m2) (hpe : pcC < pe)
    (hin : ∀ v, o = .inl v → ∃ b, v = some (vI b) ∧ r = 0 ∧ m3 = wL m2 9 0 0 0 b.toInt64 ∧ sm_many 4 M (pcC + 3, L0, [vI b, vI 0, vR 9 0 0], m2) = some (pcR, L0, [vI 0], m3)) (h5 : asc (mT M) pcR = some (.ireturn, 1))
    (hthr : ∀ y, o = .inr y → m3 = m2 ∧ ∃ pre h v suf, hs = pre ++ (h, y, v) :: suf ∧ (y = 40 ∨ y = 50 ∨ y = 58) ∧ (∀ z ∈ pre, (z.2.1 = 40 ∨ z.2.1 = 50 ∨ z.2.1 = 58) ∧ ¬ y = z.2.1) ∧ hOK M h v = true ∧ r = Int32.ofInt v) :
    vx_Met l (mY M) (mWsW M (hhO pe hs)) (mRmX M) (mPcX A D ad Ba bs L9 xs (vR 3 0 0 :: as ++ [vR 9 0 0]) m) (Qc0 A D ad Ba L9 xs (some (vI r)) m3) (fun _ _ _ => False) 1 6 Ba := by
  unfold wrG at hg
  simp only [Bool.and_eq_true, decide_eq_true_eq] at hg
  obtain ⟨⟨⟨⟨g1, g2⟩, hO⟩, hI⟩, gY⟩ := hg
  have hs0 : SV (vR 3 0 0 :: as ++ [vR 9 0 0]) := by
    intro u hu
    rcases List.mem_append.mp hu with q | q
    · rcases List.mem_cons.mp q with rfl | q
      · rfl
      · exact hsa u q
    · rw [List.mem_singleton.mp q]; rfl
  refine vx_ofWH (cc := mB M) (maxL := mN M) (ret := mRet M) (hh := hhO pe hs) g1 rfl ?_
  intro p e s mi args below meth c s₁ B hml hv0
  obtain ⟨rfl, hP, hT, hE⟩ := hv0
  have hts := atoms_spec (ws := mWsW M (hhO pe hs)) B.pre
  have htab : c.exceptionTable.toList = tableOf (hhO pe hs) := vx_table (x := mY M) B (hts _ List.mem_cons_self)
  have hown : s.vm.findClass (mY M).cls = some mi.cls := findClass_of_methodNamed B.named
  have hbw : ∀ w ∈ BW, w.before (((vR 3 0 0 :: as ++ [vR 9 0 0])).map (toV ad)).toArray s = true := fun w hw => hts w (List.mem_cons_of_mem _ hw)
  have ownR : s.vm.findClass (RO (mO M)) = some mi.cls := by
    have h9 : RO (mO M) = (mY M).cls := by rw [hO, gY]; rfl
    rw [h9]
    exact hown
  have ownL : s.vm.findClass "HotPanLocksLaw" = some mi.cls := by rw [← gY]; exact hown
  rw [lg_entry_eq]
  have C0 : Cx A D Ba bs L9 xs M p (headSpec (mWsW M (hhO pe hs)) (mRmX M)).room s mi _ meth c := ⟨B.exec, B.bytes, hml, ownR, hbw, B.returns, B.notSynchronized, Nat.le_refl _, Nat.le_refl _, h1f, h30, hdc, hT⟩
  have hl0 := lr_entry (ad := ad) hs0 hn0
  rw [hL0] at hl0
  refine many_ok hw had C0 (Nat.zero_le _) (Nat.zero_le _) k h1 hP hD0 va_S.rf hl0 (fun v h => nomatch h) ?_
  intro H1 locs1 ls1 hP1 hD1 hS1 hl1 hs1
  have hf : (mRmX M2).frames + 1 ≤ (headSpec (mWsW M (hhO pe hs)) (mRmX M)).room.frames ∧ 8 + (mN M2 + 11) + (mRmX M2).locals ≤ (headSpec (mWsW M (hhO pe hs)) (mRmX M)).room.locals ∧ (([vI 0, vR 9 0 0] : List PV).map cat).sum ≤ 8 ∧ (lent (vR 3 0 0 :: as)).length ≤ mN M2 := by
    simp only [sm_fit, Bool.and_eq_true, decide_eq_true_eq] at hfit
    obtain ⟨⟨⟨⟨⟨f1, f2⟩, f3⟩, f4⟩, f5⟩, f6⟩ := hfit
    exact ⟨f1, f4, f5, f6⟩
  have hc6 : (x, 1, M2) ∈ clk (mO M) := by rw [hO]; exact h3
  obtain ⟨k1, g⟩ := hw.2.2.2.2.2.2.2.2.2.2 (mO M) _ hc6
  have hM := met_thr (l := l) (M := M2) (A := A) (D := D) (ad := ad) (Ba := Ba) (bs := bs) (L9 := L9) (xs := xs) hw hdcs had hlt g (hdcs (mO M) _ hc6) h6 h82 hD1 hf.2.2.2 (fun u hu => by
    rcases List.mem_cons.mp hu with rfl | q
    · rfl
    · exact hsa u q) hsite hO2 hA
  have hp := pcx_pre (as := vR 3 0 0 :: as) hT hE hS1 hP1
  obtain ⟨cw, hrv⟩ := vcall_pre (M2 := M2) (H := H1) hw C0 hP1 hc6 (t := 3) (k := 0) (g0 := 0) (by rw [hO2]; rfl) rfl (mRmX M2) ⟨hf.1, hf.2.1⟩
  have Sx : CallFix p mi c (mB M) (mN M) s _ BW (RO (mO M)) := ⟨B.exec, B.bytes, hml, ownR, hbw⟩
  have hroom : 2 * (F0 mi pcC ls1 ((as.reverse ++ vR 3 0 0 :: [vI 0, vR 9 0 0]).map (toV ad))).monitorRoom + ((([vI 0, vR 9 0 0] : List PV).map (toV ad)).map fun v => v.category).sum ≤ 8 := lv_room (by rw [map_cat]; exact hf.2.2.1)
  refine xcall_row (rest := ([vI 0, vR 9 0 0] : List PV).map (toV ad)) (vx_runV (b := ad (3, 0, 0)) (As := as.map (toV ad)) (rest := ([vI 0, vR 9 0 0] : List PV).map (toV ad)) Sx hM cw ⟨hp.1, hrv, hp.2⟩ rfl ?_ hl1.2.1.1 ?_ hroom (dc_at hdc h2) ⟨Nat.le_refl _, Nat.le_refl _⟩) hS1 ?_ ?_
  · rw [List.length_map]; exact hn
  · show (as.reverse ++ vR 3 0 0 :: [vI 0, vR 9 0 0]).map (toV ad) = _
    rw [List.map_append, List.map_reverse]
    rfl
  · intro v hv H2 locs2 a1 a2 a6 a3
    obtain ⟨b, rfl, rfl, rfl, h4⟩ := hin v hv
    refine many_ok hw had C0 (Nat.le_refl _) (Nat.le_refl _) 4 h4 a1 a2 a3 hl1 (fun u hu => by
      rcases List.mem_cons.mp hu with rfl | q
      · rfl
      · rcases List.mem_cons.mp q with rfl | q
        · rfl
        · rw [List.mem_singleton.mp q]; rfl) ?_
    intro H3 locs3 ls3 b1 b2 b3 b4 b5
    refine vx_ret (end_row B.exec B.bytes B.returns B.notSynchronized hdc b1 b2 b5 b3 ?_)
    unfold sm_ret
    rw [h5]
    dsimp only
    rw [if_pos hI]
    rfl
  · intro y hy H2 locs2 q ce a1 a2 a3 hce hcv hcl
    obtain ⟨rfl, pre, h, v, suf, e1, hy3, hpre, hk, rfl⟩ := hthr y hy
    have hsp : c.exceptionTable.toList = tableOf (hhO pe pre) ++ (⟨0, pe, h, ctO y⟩ : ExceptionTableEntry) :: tableOf (hhO pe suf) := by
      rw [htab, e1]
      unfold hhO tableOf
      rw [List.map_append, List.map_append]
      rfl
    obtain ⟨w1, w2⟩ := cl_of hy3
    refine vx_catch (own := "HotPanLocksLaw") (name := exC y) (E := exC y) (ce := ce) ownL (tableOf (hhO pe pre)) ⟨0, pe, h, ctO y⟩ (tableOf (hhO pe suf)) hsp ?_ ?_ w2 (hbw _ w1) (ex_cast hE hy3) hce hcv hcl ?_
    · intro z hz
      unfold hhO tableOf at hz
      rw [List.map_map] at hz
      obtain ⟨z0, hz0, rfl⟩ := List.mem_map.mp hz
      obtain ⟨n1, n2⟩ := hpre z0 hz0
      obtain ⟨w3, w4⟩ := cl_of n1
      exact Or.inr ⟨w4, exC z0.2.1, hbw _ w3, hE.2.2.2.2 y z0.2.1 hy3 n1 n2⟩
    · show covers ⟨0, pe, h, ctO y⟩ pcC = true
      unfold covers
      simp only [Nat.zero_le, hpe, decide_true, Bool.and_self]
    · exact vx_ret (hnd_ok hk B.exec B.bytes B.returns hI B.notSynchronized hdc a1 a2 a3 hl1)
end
