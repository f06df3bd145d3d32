section SE
variable {p : Program} {l : Launch} {e : Env} {R : Room} {s : State} {mi : MethodId} {args : Array Value} {below : List Frame} {meth : Method} {c : Code} {H H0 : Heap} {locs : List Loc} {cells slots : Nat} {Q : State → Prop}
variable {cc : ByteArray} {o pc pc2 n nL : Nat} {ls : Array Slot} {A : AC} {D : va_G} {ad : PR → Nat} {Ba : Nat → Prop} {L L2 : List (Option PV)} {st st2 : List PV} {m m2 : PM} {i : Instr} {bs L9 : Nat} {xs : Nat → Int32}
/-- the heap holds the memory m; the script is what m says -/
def HR (A : AC) (D : va_G) (ad : PR → Nat) (L9 : Nat) (xs : Nat → Int32) (m : PM) (H : Heap) : Prop := va_P D vwCl (wd A ad m) H ∧ m.1 10 0 1 0 = nI L9 ∧ L9 < 2 ^ 31 ∧ ∀ i, i < L9 → m.1 10 0 0 i = xs i
theorem vok_ok {t k g : Nat} (h : vok (vR t k g) = true) (ht : t ≠ 10) : okW (t, k, g) = true := by
  have h1 : okR (t, k, g) = true := h
  unfold okR at h1
  rcases Bool.or_eq_true _ _ ▸ h1 with h2 | h2
  · exact h2
  · exact absurd (congrArg Prod.fst (of_decide_eq_true h2)) ht
theorem tcl_ne {t ci : Nat} (h : tcl t = some ci) : t ≠ 10 := by
  rintro rfl
  cases h
theorem va_D_eq {A1 : Nat → Prop} {w w2 : va_W} (h : w = w2) (hD : va_D A1 w) : va_D A1 w2 := h ▸ hD
theorem map_cat (ad : PR → Nat) (r : List PV) : ((r.map (toV ad)).map fun v => v.category) = r.map cat := by
  rw [List.map_map]
  exact List.map_congr_left fun v _ => toV_cat ad v
theorem hsm {s : State} {C C2 a b : String} (h : C2 = C) : ∀ x, s.fieldFound? C2 a b = some x → s.fieldFound? C a b = some x := by
  subst h
  exact fun _ h => h
theorem hr_wI {t k g j : Nat} {v : Int32} (hm : HR A D ad L9 xs m H0) (ht : t ≠ 10) (h : va_P D vwCl (wd A ad (wI m t k g j v)) H) : HR A D ad L9 xs (wI m t k g j v) H := by
  obtain ⟨-, h1, h2, h3⟩ := hm
  refine ⟨h, ?_, h2, fun i hi => ?_⟩
  · unfold wI
    dsimp only
    rw [if_neg (fun q => ht q.1.symm)]; exact h1
  · unfold wI
    dsimp only
    rw [if_neg (fun q => ht q.1.symm)]; exact h3 i hi
theorem hr_wL {t k g j : Nat} {v : Int64} (hm : HR A D ad L9 xs m H0) (h : va_P D vwCl (wd A ad (wL m t k g j v)) H) : HR A D ad L9 xs (wL m t k g j v) H := ⟨h, hm.2⟩
theorem hr_wC {k g n k2 g2 : Nat} (hm : HR A D ad L9 xs m H0) (h : va_P D vwCl (wd A ad (wC m k g n k2 g2)) H) : HR A D ad L9 xs (wC m k g n k2 g2) H := by
  obtain ⟨-, h1, h2, h3⟩ := hm
  refine ⟨h, ?_, h2, fun i hi => ?_⟩
  · unfold wC
    dsimp only
    rw [if_neg (fun q => absurd q.1 (by decide))]; exact h1
  · unfold wC
    dsimp only
    rw [if_neg (fun q => absurd q.1 (by decide))]; exact h3 i hi
set_option maxHeartbeats 8000000 in
theorem se_ok (hw : WOK) (hx : p.tables.exec = Jvm.exec) (hb : c.code = cc) (hml : c.maxLocals = nL) (hown : s.vm.findClass (RO o) = some mi.cls) (hts : ∀ w ∈ BW, w.before args s = true) (hK : va_K D vwCl (tys A) s) (hRf : 1 ≤ R.frames) (hRl : 30 ≤ R.locals) (hcl : cells ≤ R.cells) (hsl : slots ≤ R.slots)
    (hX : va_X bs L9 xs s H0) (hbl : bs < H0.size) (hbA : ¬ Ba bs) (had : ad (10, 0, 0) = bs)
    (hP : HR A D ad L9 xs m H) (hD : va_D Ba (wd A ad m)) (hS : va_S Ba H0 H locs)
    (hl : LR ad nL L ls) (hs : SV st) (hd : decode cc pc = .ok (i, n)) (h : sm_e o i n pc L st m = some (pc2, L2, st2, m2))
    (K : ∀ (H1 : Heap) (locs1 : List Loc), L2 = L → HR A D ad L9 xs m2 H1 → va_D Ba (wd A ad m2) → va_S Ba H0 H1 locs1 → SV st2 → W p l e R s mi args below meth c H1 locs1 cells slots Q (F0 mi pc2 ls (st2.map (toV ad)))) : W p l e R s mi args below meth c H locs cells slots Q (F0 mi pc ls (st.map (toV ad))) := by
  obtain ⟨w1, w2, w3, w4, w5, w6, w7, w8, w9, w10, -⟩ := hw
  have hlsz : c.maxLocals = ls.size := by rw [hml, hl.2.1.1]
  unfold sm_e at h
  split at h
  · -- getfield
    split at h
    · next t k g r =>
      split at h
      · next ci f hf =>
        split at h
        · next ht =>
          split at h
          · next v hv =>
            cases h
            have hok := vok_ok (sv_h hs) (tcl_ne ht)
            obtain ⟨fs, e1, e2, e3⟩ := fv_ok (A := A) (ad := ad) hok ht hv
            obtain ⟨q, g1, g2, g3, g4⟩ := w1 o _ (asc_mem hf)
            obtain ⟨q0, -, hq0⟩ := wd_at (A := A) (ad := ad) (m := m) hok
            rw [e1] at hq0
            obtain ⟨C, T, N⟩ := q
            exact va_get hx hb hts (w8 ci _ g1).1 hown hK hP.1 q0 hq0 g1 f g2 (hts _ g4) (hsm g3) e2 hd (K H locs rfl hP hD hS (sv_c e3 (sv_t hs)))
          · cases h
        · cases h
      · cases h
    · cases h
  · -- putfield
    split at h
    · next v t k g r =>
      split at h
      · next ci f hf =>
        split at h
        · next ht =>
          split at h
          · next hp =>
            cases h
            have hok := vok_ok (sv_h (sv_t hs)) (tcl_ne ht)
            obtain ⟨hin, fs, e1, e2, e3⟩ := ip_ok (A := A) (ad := ad) (m := m) v hok ht hp
            obtain ⟨q, g1, g2, g3, g4⟩ := w1 o _ (asc_mem hf)
            obtain ⟨q0, hq, hq0⟩ := wd_at (A := A) (ad := ad) (m := m) hok
            rw [e1] at hq0
            obtain ⟨C, T, N⟩ := q
            obtain ⟨c1, ty0, c2, c3⟩ := w8 ci _ g1
            have h9 := w9 _ hin
            rw [show vwCl[ci]? = some (C, T, N) from g1] at h9
            simp only [Option.map_some, Option.some.injEq, Bool.and_eq_true, decide_eq_true_eq] at h9
            have es := wd_set (A := A) (ad := ad) (m := m) hq e3 (fun r2 ok2 ne => ce_same ok2 (wI_ne ne) (fun _ => rfl))
            refine va_put (D := D) (v := .int v) (ty := .int) hx hb hts c1 ty0 c2 c3 hown hK hP.1 hD hS q0 hq0 g1 f g2 (hts _ g4) (hsm g3) h9.1 (by rw [h9.2]; decide) rfl rfl e2 hd (fun H1 locs1 hP1 hD1 hS1 => ?_)
            rw [es] at hP1 hD1
            exact K H1 locs1 rfl (hr_wI hP (tcl_ne ht) hP1) hD1 hS1 (sv_t (sv_t hs))
          · cases h
        · cases h
      · cases h
    · next v t k g r =>
      split at h
      · next ci f hf =>
        split at h
        · next ht =>
          split at h
          · next hp =>
            unfold lpf at hp; cases hp
          · cases h
        · cases h
      · cases h
    · cases h
  · -- iaload
    split at h
    · next j t k g r =>
      split at h
      · next N hN =>
        split at h
        · cases h
        · next hj =>
          cases h
          by_cases ht : t = 10
          · subst ht
            have h1 : okR (10, k, g) = true := sv_h (sv_t hs)
            have hkg : k = 0 ∧ g = 0 := by
              unfold okR at h1
              rcases Bool.or_eq_true _ _ ▸ h1 with h2 | h2
              · exact absurd (okW_lt h2).1 (by decide)
              · have h3 := of_decide_eq_true h2; simp at h3; exact h3
            obtain ⟨rfl, rfl⟩ := hkg
            have hNe : N = L9 := by
              have h2 : (m.1 10 0 1 0).toNatClampNeg = N := Option.some.inj hN
              rw [hP.2.1, nI_clamp hP.2.2.1] at h2
              exact h2.symm
            subst hNe
            have hlt : j.toNatClampNeg < N := Nat.not_le.mp fun q => hj (Or.inr q)
            have hval : m.1 10 0 0 j.toNatClampNeg = xs j.toNatClampNeg := hP.2.2.2 _ hlt
            show W p l e R s mi args below meth c H locs cells slots Q (F0 mi pc ls (.int j :: .ref (ad (10, 0, 0)) :: r.map (toV ad)))
            rw [had]
            refine va_sld hx hb hX hbl hbA hS hj hd ?_
            rw [← hval]
            exact K H locs rfl hP hD hS (sv_c rfl (sv_t (sv_t hs)))
          · have hok := vok_ok (sv_h (sv_t hs)) ht
            obtain ⟨q0, hq, hq0⟩ := wd_at (A := A) (ad := ad) (m := m) hok
            rw [(ia_ok hok hN).1] at hq0
            exact va_iald hx hb hK hP.1 q0 0 hq0 rfl hj hd (K H locs rfl hP hD hS (sv_c rfl (sv_t (sv_t hs))))
      · cases h
    · cases h
  · -- iastore
    split at h
    · next v j t k g r =>
      split at h
      · next N hN =>
        split at h
        · cases h
        · next ht =>
          split at h
          · cases h
          · next hj =>
            cases h
            have hok := vok_ok (sv_h (sv_t (sv_t hs))) ht
            obtain ⟨q0, hq, hq0⟩ := wd_at (A := A) (ad := ad) (m := m) hok
            rw [(ia_ok hok hN).1] at hq0
            have es := wd_set (A := A) (ad := ad) (m := m) hq ((ia_ok (A := A) (ad := ad) hok hN).2 j.toNatClampNeg v) (fun r2 ok2 ne => ce_same ok2 (wI_ne ne) (fun _ => rfl))
            refine va_iast hx hb hK hP.1 hD hS q0 0 hq0 rfl hj hd (fun H1 locs1 hP1 hD1 hS1 => ?_)
            rw [es] at hP1 hD1
            exact K H1 locs1 rfl (hr_wI hP ht hP1) hD1 hS1 (sv_t (sv_t (sv_t hs)))
      · cases h
    · cases h
  · -- aaload
    split at h
    · next j k g r =>
      split at h
      · cases h
      · next hj =>
        cases h
        have hok := vok_ok (sv_h (sv_t hs)) (by decide)
        have hkg : k = 0 ∧ g = 0 := by simpa [okW] using hok
        obtain ⟨rfl, rfl⟩ := hkg
        obtain ⟨q0, hq, hq0⟩ := wd_at (A := A) (ad := ad) (m := m) hok
        have hlt : j.toNatClampNeg < 6 := Nat.not_le.mp fun q => hj (Or.inr q)
        exact va_aldq hx hb hK hP.1 q0 1 hq0 rfl hj hd (K H locs rfl hP hD hS (sv_c (by simp [vok, okR, okW]; omega) (sv_t (sv_t hs))))
    · cases h
  · -- arraylength
    split at h
    · next t k g r =>
      split at h
      · next N hN =>
        cases h
        by_cases ht : t = 10
        · subst ht
          have h1 : okR (10, k, g) = true := sv_h hs
          have hkg : k = 0 ∧ g = 0 := by
            unfold okR at h1
            rcases Bool.or_eq_true _ _ ▸ h1 with h2 | h2
            · exact absurd (okW_lt h2).1 (by decide)
            · have h3 := of_decide_eq_true h2; simp at h3; exact h3
          obtain ⟨rfl, rfl⟩ := hkg
          have hNe : N = Int32.ofNat L9 := by
            have h2 : m.1 10 0 1 0 = N := Option.some.inj hN
            rw [hP.2.1] at h2
            exact h2.symm
          subst hNe
          show W p l e R s mi args below meth c H locs cells slots Q (F0 mi pc ls (.ref (ad (10, 0, 0)) :: r.map (toV ad)))
          rw [had]
          exact va_slen hx hb hX hbl hbA hS hd (K H locs rfl hP hD hS (sv_c rfl (sv_t hs)))
        · have hok := vok_ok (sv_h hs) ht
          obtain ⟨t0, cA, ty, x, g1, g2, g3⟩ := al_ok (A := A) (ad := ad) (m := m) hok hN
          obtain ⟨q0, hq, hq0⟩ := wd_at (A := A) (ad := ad) (m := m) hok
          rw [g2] at hq0
          exact va_alen hx hb hK hP.1 q0 t0 hq0 g1 g3 hd (K H locs rfl hP hD hS (sv_c rfl (sv_t hs)))
      · cases h
    · cases h
  · -- ldc
    split at h
    · next v hv =>
      cases h
      exact lv_ldc hx hb hown (hts _ (w10 o _ (asc_mem hv))) hd (K H locs rfl hP hD hS (sv_c rfl hs))
    · cases h
  · -- ldc2_w
    split at h
    · next v hv =>
      cases h
      exact lv_ldc2 hx hb hown (hts _ (w2 o _ (asc_mem hv))) hd (K H locs rfl hP hD hS (sv_c rfl hs))
    · split at h
      · next v hv =>
        cases h
        exact lv_ldc2d hx hb hown (hts _ (w3 o _ (asc_mem hv))) hd (K H locs rfl hP hD hS (sv_c rfl hs))
      · cases h
  · -- natives
    split at h
    · next hn =>
      split at h
      · next n0 dp k2 g2 sp k1 g1 =>
        split at h
        · next hc =>
          cases h
          obtain ⟨rfl, rfl, rfl, hlen⟩ := hc
          obtain ⟨c1, c2, c3, c4⟩ := w4 o _ (asc_mem hn)
          have ok2 := vok_ok (sv_h (sv_t (sv_t hs))) (by decide)
          have ok1 := vok_ok (sv_h (sv_t (sv_t (sv_t (sv_t hs))))) (by decide)
          obtain ⟨q1, hq1, hq10⟩ := wd_at (A := A) (ad := ad) (m := m) ok1
          obtain ⟨q2, hq2, hq20⟩ := wd_at (A := A) (ad := ad) (m := m) ok2
          have hb31 : nlen k1 < 2 ^ 31 := by unfold nlen; split <;> decide
          refine va_copyi hx hb hlsz hown (hts _ c1) (hts _ c2) (hts _ c3) (hts _ c4) hK hP.1 hD hS q1 q2 0 0 hq10 hq20 rfl rfl rfl (by decide) (by decide) (nI_pos hb31) (by rw [nI_clamp hb31]; show 0 + nlen k1 ≤ nlen k1; omega) (by rw [nI_clamp hb31, hlen]; show 0 + nlen k1 ≤ nlen k1; omega) (fun _ _ => rfl) hRf (Nat.le_trans (show ([] : List Nat).sum + (nativeFrameWords "java/lang/System" "arraycopy" 5 + 11) ≤ 30 by decide +kernel) hRl) hd (fun H1 locs1 hP1 hD1 hS1 => ?_)
          have ef : (fun i => (wC m k1 g1 (nlen k1) k2 g2).1 2 k2 g2 i) = va_cpy (fun i => m.1 2 k1 g1 i) (fun i => m.1 2 k2 g2 i) (0 : Int32).toNatClampNeg (0 : Int32).toNatClampNeg (nI (nlen k1)).toNatClampNeg := by
            funext i
            rw [nI_clamp hb31]
            simp only [wC, va_cpy, true_and]
            by_cases hi : i < nlen k1
            · rw [if_pos hi, if_pos ⟨Nat.zero_le _, by show i < 0 + nlen k1; omega⟩]
              show m.1 2 k1 g1 i = m.1 2 k1 g1 (0 + (i - 0))
              rw [Nat.zero_add, Nat.sub_zero]
            · rw [if_neg hi, if_neg]
              intro q
              exact hi (by have q2 : i < 0 + nlen k1 := q.2
                           omega)
          have ec : ce A ad (wC m k1 g1 (nlen k1) k2 g2) (2, k2, g2) = .inl (A.1, nlen k2, .inl (va_cpy (fun i => m.1 2 k1 g1 i) (fun i => m.1 2 k2 g2 i) (0 : Int32).toNatClampNeg (0 : Int32).toNatClampNeg (nI (nlen k1)).toNatClampNeg)) := by rw [← ef]; rfl
          have es := wd_set (A := A) (ad := ad) (m := m) hq2 ec (fun r2 ok2 ne => ce_same ok2 (wC_ne ne) (fun _ => rfl))
          rw [es] at hP1 hD1
          exact K H1 locs1 rfl (hr_wC hP hP1) hD1 hS1 (fun v hv => by cases hv)
        · cases h
      · cases h
    · next hn =>
      split at h
      · cases h
        obtain ⟨c1, c2, c3, c4⟩ := w5 o _ (asc_mem hn)
        exact vn_d2l hx hb hlsz hown (hts _ c1) (hts _ c2) (hts _ c3) (hts _ c4) hRf (Nat.le_trans (show ([] : List Nat).sum + 15 ≤ 30 by decide) hRl) hd (K H locs rfl hP hD hS (sv_c rfl (fun v hv => by cases hv)))
      · cases h
    · next hn =>
      split at h
      · next y x r =>
        split at h
        · next hc =>
          cases h
          obtain ⟨c1, c2, c3, c4⟩ := w6 o _ (asc_mem hn)
          exact va_mmax hx hb hlsz hown (hts _ c1) (hts _ c2) (hts _ c3) (hts _ c4) hRf (by rw [map_cat]; omega) hcl hsl hd (K H locs rfl hP hD hS (sv_c rfl (sv_t (sv_t hs))))
        · cases h
      · cases h
    · next hn =>
      split at h
      · next y x r =>
        split at h
        · next hc =>
          cases h
          obtain ⟨c1, c2, c3, c4⟩ := w7 o _ (asc_mem hn)
          exact va_mmin hx hb hlsz hown (hts _ c1) (hts _ c2) (hts _ c3) (hts _ c4) hRf (by rw [map_cat]; omega) hcl hsl hd (K H locs rfl hP hD hS (sv_c rfl (sv_t (sv_t hs))))
        · cases h
      · cases h
    · cases h
  · cases h
end SE
