/-! the law's waits and over -/
def low5 (x : Int32) : Prop := ∀ i, i < 32 → bit x i = true → i < 5
theorem bit_wn {m : PM} {rr rm rp : Nat → Int32} (HQ : RQ rr rm rp (zz m)) {h r n p : Nat} (hh : h < 8) (hr : r < 12) (hn : zz m (125 + r) = nI n) (hn8 : n ≤ 8) (hp : p < n) (e1 : rr h = nI r) (e2 : rp h = nI p) : ∀ i, i < 32 → (bit (v_X5_waitsNow m (nI h)) i = true ↔ (i < 8 ∧ clB m r (zz m (233 + 8 * r + p)) (nI h) i = true) ∨ ∃ q, q < p ∧ zz m (137 + 8 * r + q) = nI i) := by
  intro i hi
  have hro := rowOf_R HQ hh
  have eP := plc_of HQ hh hr e1 e2 (show p < 8 by omega)
  unfold v_X5_waitsNow
  rw [if_neg (show ¬ v_X5_rowOf m (nI h) = -1 by rw [hro, e1]; exact nI_nm1 (by omega))]
  have eR : rowN m (nI h) = r := by unfold rowN; rw [hro, e1]; exact nI_clamp (by omega)
  rw [eR, eP]
  obtain ⟨n2, hn2, en2, kn⟩ := HQ.1 r hr
  rw [hn] at en2
  obtain rfl := (nI_eq (by omega) (by omega)).mp en2
  rw [bit_who m r p (fun q hq => by obtain ⟨h2, b1, b2, _⟩ := kn q (by omega); exact ⟨h2, b1, b2⟩) p 0 _ (Nat.add_zero _) i hi, bit_clash m r _ _ i hi, Bool.and_eq_true, decide_eq_true_eq]
  constructor
  · rintro (q | ⟨q, _, h2, h3⟩)
    · exact Or.inl q
    · exact Or.inr ⟨q, h2, h3⟩
  · rintro (q | ⟨q, h2, h3⟩)
    · exact Or.inl q
    · exact Or.inr ⟨q, Nat.zero_le _, h2, h3⟩
section
variable {M m : PM} {a : Nat → Nat → Int32} {s : Nat × Int32} {rr rm rp : Nat → Int32}
theorem clB_P (H : LK a (zz m)) {r i : Nat} (hr : r < 6) (hi : i < 8) (md but : Int32) : clB m r md but i = true ↔ i < 5 ∧ clP a r md but (-1) i := by
  unfold clB clP
  by_cases c5 : i < 5
  · have e : v_X5_lockOf m i r = a 1 (6 * i + r) := (H.1 i r c5 hr).symm
    rw [e]
    by_cases c1 : nI i = but
    · rw [if_pos c1]; exact ⟨fun q => absurd q (by decide), fun q => absurd c1 q.2.1⟩
    rw [if_neg c1]
    by_cases c2 : a 1 (6 * i + r) ≤ 0
    · rw [if_pos c2]; exact ⟨fun q => absurd q (by decide), fun q => absurd c2 q.2.2.2.1⟩
    rw [if_neg c2]
    by_cases c3 : a 1 (6 * i + r) + md ≤ 3
    · rw [if_pos c3]; exact ⟨fun q => absurd q (by decide), fun q => absurd c3 q.2.2.2.2⟩
    · rw [if_neg c3]; exact ⟨fun _ => ⟨c5, c1, nI_nm1 (by omega), c2, c3⟩, fun _ => rfl⟩
  · have e : v_X5_lockOf m i r = 0 := H.2 i r hi (by omega) (Or.inl (by omega))
    rw [e, if_pos (show (0 : Int32) ≤ 0 by decide)]
    constructor
    · intro q
      split at q <;> exact absurd q (by decide)
    · exact fun q => absurd q.1 c5
theorem low5_wn (HQ : RQ rr rm rp (zz m)) (H : LQ a (zz m)) (HK : LK a (zz m)) {h : Nat} (hh : h < 8) : low5 (v_X5_waitsNow m (nI h)) := by
  intro i hi q
  rcases rq_n HQ H hh with e | ⟨r, n, p, h1, h2, h3, h4, h5, h6, h7, h8⟩
  · have hro := rowOf_R HQ hh
    unfold v_X5_waitsNow at q
    rw [if_pos (by rw [hro]; exact e), bit_0] at q
    exact absurd q (by decide)
  · rw [bit_wn HQ hh (by omega) h3 (by omega) h5 h6 h7 i hi] at q
    rcases q with ⟨g1, g2⟩ | ⟨q, g1, g2⟩
    · exact ((clB_P HK h1 g1 _ _).mp g2).1
    · obtain ⟨n2, _, g3, _, g4⟩ := H.1 r h1
      obtain rfl : n = n2 := (nI_eq (by omega) (by omega)).mp (h3.symm.trans g3)
      obtain ⟨w, md, w1, _, _, w4, _⟩ := g4 q (by omega)
      obtain rfl : w = i := (nI_eq (by omega) (by omega)).mp (w4.symm.trans g2)
      exact w1
theorem r_waits (HQ : RQ rr rm rp (zz m)) (H : LQ a (zz m)) (HK : LK a (zz m)) {h : Nat} (hh : h < 5) : Rn ML_waits [vR 8 1 0, vR 8 2 0, vR 8 3 0, vI (nI h)] (setA M a) (some (vI (v_X5_waitsNow m (nI h)))) (setA M a) := by
  refine rn_of [some (vR 8 1 0), some (vR 8 2 0), some (vR 8 3 0), some (vI (nI h)), none, none, none, none] rfl ?_
  refine an_b 3 (pc2 := 3) (L2 := [some (vR 8 1 0), some (vR 8 2 0), some (vR 8 3 0), some (vI (nI h)), none, none, none, none]) (st2 := [vI (nI h), vR 8 3 0, vR 8 2 0]) (m1 := (setA M a)) rfl ?_
  refine an_call (r_rowOf HQ H hh) rfl rfl rfl rfl ?_
  refine an_b 3 (pc2 := if 0 ≤ (rr h) then 15 else 13) (L2 := [some (vR 8 1 0), some (vR 8 2 0), some (vR 8 3 0), some (vI (nI h)), some (vI (rr h)), none, none, none]) (st2 := []) (m1 := (setA M a)) rfl ?_
  rcases rq_n HQ H (h := h) (by omega) with e | ⟨r, n, p, hr, hn5, hn, hqm, hp, e1, e2, e3⟩
  · have hro := rowOf_R HQ (h := h) (by omega)
    have ev : v_X5_waitsNow m (nI h) = 0 := by
      unfold v_X5_waitsNow
      rw [if_pos (by rw [hro]; exact e)]
    rw [ev, e]
    refine an_f (by decide) ?_
    refine an_b 1 (pc2 := 14) (L2 := [some (vR 8 1 0), some (vR 8 2 0), some (vR 8 3 0), some (vI (nI h)), some (vI (-1 : Int32)), none, none, none]) (st2 := [vI (0 : Int32)]) (m1 := (setA M a)) rfl ?_
    exact an_ret rfl rfl rfl rfl rfl
  have hB := bit_wn HQ (h := h) (by omega) (show r < 12 by omega) hn (by omega) hp e1 e2
  obtain ⟨n2, _, g1, g2, g3⟩ := H.1 r hr
  obtain rfl : n = n2 := (nI_eq (by omega) (by omega)).mp (hn.symm.trans g1)
  obtain ⟨w0, md, w1, w2, w3, w4, w5, w6⟩ := g3 p hp
  obtain rfl : w0 = h := (nI_eq (by omega) (by omega)).mp (w4.symm.trans e3)
  rw [w5] at hB
  rw [e1]
  refine an_t (nI_pos' (by omega)) ?_
  refine an_b 6 (pc2 := 24) (L2 := [some (vR 8 1 0), some (vR 8 2 0), some (vR 8 3 0), some (vI (nI w0)), some (vI (nI r)), some (vI (0 : Int32)), some (vI (0 : Int32)), some (vI (0 : Int32))]) (st2 := []) (m1 := (setA M a)) rfl ?_
  -- the places ahead
  suffices K1 : ∀ e k x, k + e = p → (∀ i, i < 32 → (bit x i = true ↔ ∃ q, q < k ∧ zz m (137 + 8 * r + q) = nI i)) → An ML_waits 24 [some (vR 8 1 0), some (vR 8 2 0), some (vR 8 3 0), some (vI (nI w0)), some (vI (nI r)), some (vI x), some (vI 0), some (vI (nI k))] [] (setA M a) (.inl (some (vI (v_X5_waitsNow m (nI w0))))) (setA M a) from K1 p 0 0 (Nat.zero_add p) (fun i hi => by
    rw [bit_0]
    exact ⟨fun q => absurd q (by decide), fun ⟨q, h1, _⟩ => by omega⟩)
  -- the locks in the way
  have K3 : ∀ d o y, o + d = 5 → (∀ i, i < 32 → (bit y i = true ↔ (i < o ∧ clP a r (nI md) (nI w0) (-1) i) ∨ ∃ q, q < p ∧ zz m (137 + 8 * r + q) = nI i)) → An ML_waits 90 [some (vR 8 1 0), some (vR 8 2 0), some (vR 8 3 0), some (vI (nI w0)), some (vI (nI r)), some (vI y), some (vI (nI md)), some (vI (nI o))] [] (setA M a) (.inl (some (vI (v_X5_waitsNow m (nI w0))))) (setA M a) := by
    intro d
    induction d with
    | zero =>
      intro o y hd hy
      obtain rfl : o = 5 := by omega
      have ey : v_X5_waitsNow m (nI w0) = y := bit_ext (fun i hi => by
        rw [Bool.eq_iff_iff, hB i hi, hy i hi]
        constructor
        · rintro (⟨b1, b2⟩ | b)
          · exact Or.inl ((clB_P HK hr b1 _ _).mp b2)
          · exact Or.inr b
        · rintro (b | b)
          · exact Or.inl ⟨by omega, (clB_P HK hr (by omega) _ _).mpr b⟩
          · exact Or.inr b)
      rw [ey]
      refine an_b 3 (pc2 := if (5 : Int32) ≤ (nI 5) then 147 else 96) (L2 := [some (vR 8 1 0), some (vR 8 2 0), some (vR 8 3 0), some (vI (nI w0)), some (vI (nI r)), some (vI y), some (vI (nI md)), some (vI (nI 5))]) (st2 := []) (m1 := (setA M a)) rfl ?_
      refine an_t (nI_le (Nat.le_refl 5) (by omega)) ?_
      refine an_b 1 (pc2 := 149) (L2 := [some (vR 8 1 0), some (vR 8 2 0), some (vR 8 3 0), some (vI (nI w0)), some (vI (nI r)), some (vI y), some (vI (nI md)), some (vI (nI 5))]) (st2 := [vI y]) (m1 := (setA M a)) rfl ?_
      exact an_ret rfl rfl rfl rfl rfl
    | succ d ih =>
      intro o y hd hy
      have nx : ∀ y2, (∀ i, i < 32 → (bit y2 i = true ↔ (i < o + 1 ∧ clP a r (nI md) (nI w0) (-1) i) ∨ ∃ q, q < p ∧ zz m (137 + 8 * r + q) = nI i)) → An ML_waits 141 [some (vR 8 1 0), some (vR 8 2 0), some (vR 8 3 0), some (vI (nI w0)), some (vI (nI r)), some (vI y2), some (vI (nI md)), some (vI (nI o))] [] (setA M a) (.inl (some (vI (v_X5_waitsNow m (nI w0))))) (setA M a) := by
        intro y2 h2
        have k1 := ih (o + 1) y2 (by omega) h2
        refine an_b 2 (pc2 := 90) (L2 := [some (vR 8 1 0), some (vR 8 2 0), some (vR 8 3 0), some (vI (nI w0)), some (vI (nI r)), some (vI y2), some (vI (nI md)), some (vI ((nI o) + (1 : Int32)))]) (st2 := []) (m1 := (setA M a)) rfl ?_
        rw [← nI_1] at k1
        exact k1
      have no : ¬ clP a r (nI md) (nI w0) (-1) o → ∀ i, i < 32 → (bit y i = true ↔ (i < o + 1 ∧ clP a r (nI md) (nI w0) (-1) i) ∨ ∃ q, q < p ∧ zz m (137 + 8 * r + q) = nI i) := by
        intro c i hi
        rw [hy i hi]
        constructor
        · rintro (⟨b1, b2⟩ | b)
          · exact Or.inl ⟨by omega, b2⟩
          · exact Or.inr b
        · rintro (⟨b1, b2⟩ | b)
          · by_cases q : i = o
            · rw [q] at b2; exact absurd b2 c
            · exact Or.inl ⟨by omega, b2⟩
          · exact Or.inr b
      by_cases c1 : nI o = nI w0
      · refine an_b 3 (pc2 := if (5 : Int32) ≤ (nI o) then 147 else 96) (L2 := [some (vR 8 1 0), some (vR 8 2 0), some (vR 8 3 0), some (vI (nI w0)), some (vI (nI r)), some (vI y), some (vI (nI md)), some (vI (nI o))]) (st2 := []) (m1 := (setA M a)) rfl ?_
        refine an_f (nI_ge (b := 5) (by omega) (by omega)) ?_
        refine an_b 3 (pc2 := if (nI o) = (nI w0) then 141 else 102) (L2 := [some (vR 8 1 0), some (vR 8 2 0), some (vR 8 3 0), some (vI (nI w0)), some (vI (nI r)), some (vI y), some (vI (nI md)), some (vI (nI o))]) (st2 := []) (m1 := (setA M a)) rfl ?_
        refine an_t c1 ?_
        exact nx y (no (fun q => q.1 c1))
      by_cases c2 : a 1 (6 * o + r) ≤ 0
      · refine an_b 3 (pc2 := if (5 : Int32) ≤ (nI o) then 147 else 96) (L2 := [some (vR 8 1 0), some (vR 8 2 0), some (vR 8 3 0), some (vI (nI w0)), some (vI (nI r)), some (vI y), some (vI (nI md)), some (vI (nI o))]) (st2 := []) (m1 := (setA M a)) rfl ?_
        refine an_f (nI_ge (b := 5) (by omega) (by omega)) ?_
        refine an_b 3 (pc2 := if (nI o) = (nI w0) then 141 else 102) (L2 := [some (vR 8 1 0), some (vR 8 2 0), some (vR 8 3 0), some (vI (nI w0)), some (vI (nI r)), some (vI y), some (vI (nI md)), some (vI (nI o))]) (st2 := []) (m1 := (setA M a)) rfl ?_
        refine an_f c1 ?_
        refine an_b 6 (pc2 := 111) (L2 := [some (vR 8 1 0), some (vR 8 2 0), some (vR 8 3 0), some (vI (nI w0)), some (vI (nI r)), some (vI y), some (vI (nI md)), some (vI (nI o))]) (st2 := [vI (((6 : Int32) * (nI o)) + (nI r)), vR 8 1 0]) (m1 := (setA M a)) rfl ?_
        refine an_la 1 ((6 * o) + r) (by decide) (by show _ < 30; omega) (by simp only [ix_lit, pk_mul, nI_add]) rfl ?_
        refine an_b 1 (pc2 := if (a 1 ((6 * o) + r)) ≤ 0 then 141 else 115) (L2 := [some (vR 8 1 0), some (vR 8 2 0), some (vR 8 3 0), some (vI (nI w0)), some (vI (nI r)), some (vI y), some (vI (nI md)), some (vI (nI o))]) (st2 := []) (m1 := (setA M a)) rfl ?_
        refine an_t c2 ?_
        exact nx y (no (fun q => q.2.2.1 c2))
      by_cases c3 : a 1 (6 * o + r) + nI md ≤ 3
      · refine an_b 3 (pc2 := if (5 : Int32) ≤ (nI o) then 147 else 96) (L2 := [some (vR 8 1 0), some (vR 8 2 0), some (vR 8 3 0), some (vI (nI w0)), some (vI (nI r)), some (vI y), some (vI (nI md)), some (vI (nI o))]) (st2 := []) (m1 := (setA M a)) rfl ?_
        refine an_f (nI_ge (b := 5) (by omega) (by omega)) ?_
        refine an_b 3 (pc2 := if (nI o) = (nI w0) then 141 else 102) (L2 := [some (vR 8 1 0), some (vR 8 2 0), some (vR 8 3 0), some (vI (nI w0)), some (vI (nI r)), some (vI y), some (vI (nI md)), some (vI (nI o))]) (st2 := []) (m1 := (setA M a)) rfl ?_
        refine an_f c1 ?_
        refine an_b 6 (pc2 := 111) (L2 := [some (vR 8 1 0), some (vR 8 2 0), some (vR 8 3 0), some (vI (nI w0)), some (vI (nI r)), some (vI y), some (vI (nI md)), some (vI (nI o))]) (st2 := [vI (((6 : Int32) * (nI o)) + (nI r)), vR 8 1 0]) (m1 := (setA M a)) rfl ?_
        refine an_la 1 ((6 * o) + r) (by decide) (by show _ < 30; omega) (by simp only [ix_lit, pk_mul, nI_add]) rfl ?_
        refine an_b 1 (pc2 := if (a 1 ((6 * o) + r)) ≤ 0 then 141 else 115) (L2 := [some (vR 8 1 0), some (vR 8 2 0), some (vR 8 3 0), some (vI (nI w0)), some (vI (nI r)), some (vI y), some (vI (nI md)), some (vI (nI o))]) (st2 := []) (m1 := (setA M a)) rfl ?_
        refine an_f c2 ?_
        refine an_b 6 (pc2 := 124) (L2 := [some (vR 8 1 0), some (vR 8 2 0), some (vR 8 3 0), some (vI (nI w0)), some (vI (nI r)), some (vI y), some (vI (nI md)), some (vI (nI o))]) (st2 := [vI (((6 : Int32) * (nI o)) + (nI r)), vR 8 1 0]) (m1 := (setA M a)) rfl ?_
        refine an_la 1 ((6 * o) + r) (by decide) (by show _ < 30; omega) (by simp only [ix_lit, pk_mul, nI_add]) rfl ?_
        refine an_b 4 (pc2 := if ((a 1 ((6 * o) + r)) + (nI md)) ≤ (3 : Int32) then 141 else 132) (L2 := [some (vR 8 1 0), some (vR 8 2 0), some (vR 8 3 0), some (vI (nI w0)), some (vI (nI r)), some (vI y), some (vI (nI md)), some (vI (nI o))]) (st2 := []) (m1 := (setA M a)) rfl ?_
        refine an_t c3 ?_
        exact nx y (no (fun q => q.2.2.2 c3))
      refine an_b 3 (pc2 := if (5 : Int32) ≤ (nI o) then 147 else 96) (L2 := [some (vR 8 1 0), some (vR 8 2 0), some (vR 8 3 0), some (vI (nI w0)), some (vI (nI r)), some (vI y), some (vI (nI md)), some (vI (nI o))]) (st2 := []) (m1 := (setA M a)) rfl ?_
      refine an_f (nI_ge (b := 5) (by omega) (by omega)) ?_
      refine an_b 3 (pc2 := if (nI o) = (nI w0) then 141 else 102) (L2 := [some (vR 8 1 0), some (vR 8 2 0), some (vR 8 3 0), some (vI (nI w0)), some (vI (nI r)), some (vI y), some (vI (nI md)), some (vI (nI o))]) (st2 := []) (m1 := (setA M a)) rfl ?_
      refine an_f c1 ?_
      refine an_b 6 (pc2 := 111) (L2 := [some (vR 8 1 0), some (vR 8 2 0), some (vR 8 3 0), some (vI (nI w0)), some (vI (nI r)), some (vI y), some (vI (nI md)), some (vI (nI o))]) (st2 := [vI (((6 : Int32) * (nI o)) + (nI r)), vR 8 1 0]) (m1 := (setA M a)) rfl ?_
      refine an_la 1 ((6 * o) + r) (by decide) (by show _ < 30; omega) (by simp only [ix_lit, pk_mul, nI_add]) rfl ?_
      refine an_b 1 (pc2 := if (a 1 ((6 * o) + r)) ≤ 0 then 141 else 115) (L2 := [some (vR 8 1 0), some (vR 8 2 0), some (vR 8 3 0), some (vI (nI w0)), some (vI (nI r)), some (vI y), some (vI (nI md)), some (vI (nI o))]) (st2 := []) (m1 := (setA M a)) rfl ?_
      refine an_f c2 ?_
      refine an_b 6 (pc2 := 124) (L2 := [some (vR 8 1 0), some (vR 8 2 0), some (vR 8 3 0), some (vI (nI w0)), some (vI (nI r)), some (vI y), some (vI (nI md)), some (vI (nI o))]) (st2 := [vI (((6 : Int32) * (nI o)) + (nI r)), vR 8 1 0]) (m1 := (setA M a)) rfl ?_
      refine an_la 1 ((6 * o) + r) (by decide) (by show _ < 30; omega) (by simp only [ix_lit, pk_mul, nI_add]) rfl ?_
      refine an_b 4 (pc2 := if ((a 1 ((6 * o) + r)) + (nI md)) ≤ (3 : Int32) then 141 else 132) (L2 := [some (vR 8 1 0), some (vR 8 2 0), some (vR 8 3 0), some (vI (nI w0)), some (vI (nI r)), some (vI y), some (vI (nI md)), some (vI (nI o))]) (st2 := []) (m1 := (setA M a)) rfl ?_
      refine an_f c3 ?_
      refine an_b 6 (pc2 := 141) (L2 := [some (vR 8 1 0), some (vR 8 2 0), some (vR 8 3 0), some (vI (nI w0)), some (vI (nI r)), some (vI (y ||| ((1 : Int32) <<< ((nI o) &&& (31 : Int32))))), some (vI (nI md)), some (vI (nI o))]) (st2 := []) (m1 := (setA M a)) rfl ?_
      refine nx _ (fun i hi => ?_)
      rw [bit_or, bit_1 hi (by omega), Bool.or_eq_true, decide_eq_true_eq, hy i hi]
      constructor
      · rintro ((⟨b1, b2⟩ | b) | b)
        · exact Or.inl ⟨by omega, b2⟩
        · exact Or.inr b
        · subst b; exact Or.inl ⟨by omega, c1, nI_nm1 (by omega), c2, c3⟩
      · rintro (⟨b1, b2⟩ | b)
        · by_cases q : i = o
          · exact Or.inr q
          · exact Or.inl (Or.inl ⟨by omega, b2⟩)
        · exact Or.inl (Or.inr b)
  intro e
  induction e with
  | zero =>
    intro k x hk hx
    obtain rfl : k = p := by omega
    refine an_b 2 (pc2 := if ¬ (0 : Int32) = 0 then 87 else 29) (L2 := [some (vR 8 1 0), some (vR 8 2 0), some (vR 8 3 0), some (vI (nI w0)), some (vI (nI r)), some (vI x), some (vI (0 : Int32)), some (vI (nI k))]) (st2 := []) (m1 := (setA M a)) rfl ?_
    refine an_f (fun q => q rfl) ?_
    refine an_b 6 (pc2 := 37) (L2 := [some (vR 8 1 0), some (vR 8 2 0), some (vR 8 3 0), some (vI (nI w0)), some (vI (nI r)), some (vI x), some (vI (0 : Int32)), some (vI (nI k))]) (st2 := [vI (((5 : Int32) * (nI r)) + (nI k)), vR 8 2 0]) (m1 := (setA M a)) rfl ?_
    refine an_la 2 ((5 * r) + k) (by decide) (by show _ < 36; omega) (by simp only [ix_lit, pk_mul, nI_add]) rfl ?_
    refine an_b 4 (pc2 := if ¬ (nI w0) = (nI w0) then 62 else 45) (L2 := [some (vR 8 1 0), some (vR 8 2 0), some (vR 8 3 0), some (vI (nI w0)), some (vI (nI r)), some (vI x), some (vI (0 : Int32)), some (vI (nI k))]) (st2 := []) (m1 := (setA M a)) (by rw [show a 2 (5 * r + k) = nI (w0 + 8 * md) from w6, ← rem8 w0 w1 md w3]; rfl) ?_
    refine an_f (fun q => q rfl) ?_
    refine an_b 6 (pc2 := 53) (L2 := [some (vR 8 1 0), some (vR 8 2 0), some (vR 8 3 0), some (vI (nI w0)), some (vI (nI r)), some (vI x), some (vI (0 : Int32)), some (vI (nI k))]) (st2 := [vI (((5 : Int32) * (nI r)) + (nI k)), vR 8 2 0]) (m1 := (setA M a)) rfl ?_
    refine an_la 2 ((5 * r) + k) (by decide) (by show _ < 36; omega) (by simp only [ix_lit, pk_mul, nI_add]) rfl ?_
    refine an_b 3 (pc2 := 59) (L2 := [some (vR 8 1 0), some (vR 8 2 0), some (vR 8 3 0), some (vI (nI w0)), some (vI (nI r)), some (vI x), some (vI (nI md)), some (vI (nI k))]) (st2 := []) (m1 := (setA M a)) (by rw [show a 2 (5 * r + k) = nI (w0 + 8 * md) from w6, ← div8 w0 w1 md w3]; rfl) ?_
    refine an_b 3 (pc2 := 24) (L2 := [some (vR 8 1 0), some (vR 8 2 0), some (vR 8 3 0), some (vI (nI w0)), some (vI (nI r)), some (vI x), some (vI (nI md)), some (vI ((nI k) + (1 : Int32)))]) (st2 := []) (m1 := (setA M a)) rfl ?_
    refine an_b 2 (pc2 := if ¬ (nI md) = 0 then 87 else 29) (L2 := [some (vR 8 1 0), some (vR 8 2 0), some (vR 8 3 0), some (vI (nI w0)), some (vI (nI r)), some (vI x), some (vI (nI md)), some (vI ((nI k) + (1 : Int32)))]) (st2 := []) (m1 := (setA M a)) rfl ?_
    refine an_t (nI_ne0 (by omega) (by omega)) ?_
    refine an_b 2 (pc2 := 90) (L2 := [some (vR 8 1 0), some (vR 8 2 0), some (vR 8 3 0), some (vI (nI w0)), some (vI (nI r)), some (vI x), some (vI (nI md)), some (vI (0 : Int32))]) (st2 := []) (m1 := (setA M a)) rfl ?_
    refine K3 5 0 x rfl (fun i hi => ?_)
    rw [hx i hi]
    exact ⟨Or.inr, fun q => q.resolve_left (fun u => by omega)⟩
  | succ e ih =>
    intro k x hk hx
    obtain ⟨w, md2, u1, u2, u3, u4, u5, u6⟩ := g3 k (by omega)
    have hne : ¬ nI w = nI w0 := by
      intro q
      obtain rfl : w = w0 := (nI_eq (by omega) (by omega)).mp q
      obtain ⟨n4, _, y1, y2⟩ := HQ.1 r (by omega)
      obtain rfl : n = n4 := (nI_eq (by omega) (by omega)).mp (hn.symm.trans y1)
      obtain ⟨h2, x1, x2, _, x4, _⟩ := y2 k (by omega)
      obtain rfl : w = h2 := (nI_eq (by omega) (by omega)).mp (u4.symm.trans x2)
      have : p = k := (nI_eq (by omega) (by omega)).mp (e2.symm.trans x4)
      omega
    refine an_b 2 (pc2 := if ¬ (0 : Int32) = 0 then 87 else 29) (L2 := [some (vR 8 1 0), some (vR 8 2 0), some (vR 8 3 0), some (vI (nI w0)), some (vI (nI r)), some (vI x), some (vI (0 : Int32)), some (vI (nI k))]) (st2 := []) (m1 := (setA M a)) rfl ?_
    refine an_f (fun q => q rfl) ?_
    refine an_b 6 (pc2 := 37) (L2 := [some (vR 8 1 0), some (vR 8 2 0), some (vR 8 3 0), some (vI (nI w0)), some (vI (nI r)), some (vI x), some (vI (0 : Int32)), some (vI (nI k))]) (st2 := [vI (((5 : Int32) * (nI r)) + (nI k)), vR 8 2 0]) (m1 := (setA M a)) rfl ?_
    refine an_la 2 ((5 * r) + k) (by decide) (by show _ < 36; omega) (by simp only [ix_lit, pk_mul, nI_add]) rfl ?_
    refine an_b 4 (pc2 := if ¬ (nI w) = (nI w0) then 62 else 45) (L2 := [some (vR 8 1 0), some (vR 8 2 0), some (vR 8 3 0), some (vI (nI w0)), some (vI (nI r)), some (vI x), some (vI (0 : Int32)), some (vI (nI k))]) (st2 := []) (m1 := (setA M a)) (by rw [show a 2 (5 * r + k) = nI (w + 8 * md2) from u6, ← rem8 w u1 md2 u3]; rfl) ?_
    refine an_t hne ?_
    refine an_b 8 (pc2 := 73) (L2 := [some (vR 8 1 0), some (vR 8 2 0), some (vR 8 3 0), some (vI (nI w0)), some (vI (nI r)), some (vI x), some (vI (0 : Int32)), some (vI (nI k))]) (st2 := [vI (((5 : Int32) * (nI r)) + (nI k)), vR 8 2 0, vI (1 : Int32), vI x]) (m1 := (setA M a)) rfl ?_
    refine an_la 2 ((5 * r) + k) (by decide) (by show _ < 36; omega) (by simp only [ix_lit, pk_mul, nI_add]) rfl ?_
    refine an_b 5 (pc2 := 81) (L2 := [some (vR 8 1 0), some (vR 8 2 0), some (vR 8 3 0), some (vI (nI w0)), some (vI (nI r)), some (vI (x ||| ((1 : Int32) <<< ((nI w) &&& (31 : Int32))))), some (vI (0 : Int32)), some (vI (nI k))]) (st2 := []) (m1 := (setA M a)) (by rw [show a 2 (5 * r + k) = nI (w + 8 * md2) from u6, ← rem8 w u1 md2 u3]; rfl) ?_
    refine an_b 2 (pc2 := 24) (L2 := [some (vR 8 1 0), some (vR 8 2 0), some (vR 8 3 0), some (vI (nI w0)), some (vI (nI r)), some (vI (x ||| ((1 : Int32) <<< ((nI w) &&& (31 : Int32))))), some (vI (0 : Int32)), some (vI ((nI k) + (1 : Int32)))]) (st2 := []) (m1 := (setA M a)) rfl ?_
    rw [nI_1]
    refine ih (k + 1) _ (by omega) (fun i hi => ?_)
    rw [bit_or, bit_1 hi (by omega), Bool.or_eq_true, decide_eq_true_eq, hx i hi]
    constructor
    · rintro (⟨q, b1, b2⟩ | b)
      · exact ⟨q, by omega, b2⟩
      · subst b; exact ⟨k, by omega, u4⟩
    · rintro ⟨q, b1, b2⟩
      by_cases c : q = k
      · subst c
        exact Or.inr ((nI_eq (by omega) (by omega)).mp (b2.symm.trans u4))
      · exact Or.inl ⟨q, by omega, b2⟩
theorem low5_cnt {x : Int32} (h : low5 x) : cnt x ≤ 5 := by
  have z : ∀ i, 5 ≤ i → i < 8 → b1 x i = 0 := fun i h1 h2 => by
    unfold b1
    rw [if_neg (fun q => by have := h i (by omega) q; omega)]
  have := b1_le x 0
  have := b1_le x 1
  have := b1_le x 2
  have := b1_le x 3
  have := b1_le x 4
  unfold cnt
  rw [z 5 (by omega) (by omega), z 6 (by omega) (by omega), z 7 (by omega) (by omega)]
  omega
theorem low5_low {x : Int32} (h : low5 x) : low x := fun i hi q => by have := h i hi q; omega
theorem low5_or {x y : Int32} (h : low5 x) (h2 : low5 y) : low5 (x ||| y) := fun i hi q => by
  rw [bit_or, Bool.or_eq_true] at q
  exact q.elim (h i hi) (h2 i hi)
theorem rdM_5 (hD : ∀ o, o < 8 → low5 (v_X5_waitsNow m (nI o))) {x t : Int32} {o : Nat} (ho : o < 8) (h : low5 t) : low5 (rdM m x o t) := by
  rw [rdM_if m x o t ho]
  split
  · exact low5_or h (hD o ho)
  · exact h
theorem in_5 (hD : ∀ o, o < 8 → low5 (v_X5_waitsNow m (nI o))) (x : Int32) {t : Int32} (h : low5 t) : lp (rdM m x) 8 0 t = lp (rdM m x) 5 0 t ∧ low5 (lp (rdM m x) 5 0 t) := by
  have k : low5 (lp (rdM m x) 5 0 t) := lp_inv (rdM m x) 5 (fun _ t => low5 t) (fun j s hj hs => rdM_5 hD (by omega) hs) 5 0 t rfl h
  refine ⟨?_, k⟩
  rw [show (8 : Nat) = 5 + 3 from rfl, lp_add, lp_id _ 8 _ 3 (0 + 5) rfl (fun i h1 h2 => ?_)]
  rw [rdM_if m x i _ h2, if_neg (fun q => by have := k i (by omega) q; omega)]
theorem over_5 (hD : ∀ o, o < 8 → low5 (v_X5_waitsNow m (nI o))) {h : Nat} (hh : h < 8) : v_X5_waitsOver m (nI h) = lp (fun _ t => lp (rdM m t) 5 0 t) 5 0 (v_X5_waitsNow m (nI h)) := by
  have eM : v_X5_waitsOver m (nI h) = lp (fun _ t => lp (rdM m t) 8 0 t) 8 0 (v_X5_waitsNow m (nI h)) := rfl
  have hl : ∀ o, o < 8 → low (v_X5_waitsNow m (nI o)) := fun o ho => low5_low (hD o ho)
  have e5 : lp (fun _ t => lp (rdM m t) 8 0 t) 5 0 (v_X5_waitsNow m (nI h)) = lp (fun _ t => lp (rdM m t) 5 0 t) 5 0 (v_X5_waitsNow m (nI h)) ∧ low5 (lp (fun _ t => lp (rdM m t) 5 0 t) 5 0 (v_X5_waitsNow m (nI h))) := lp_rel _ _ 5 (fun _ x y => x = y ∧ low5 y) (fun j x y hj e => by
    obtain ⟨rfl, e⟩ := e
    exact in_5 hD x e) 5 0 _ _ rfl ⟨rfl, hD h hh⟩
  have k := lp_inv (fun _ t => lp (rdM m t) 8 0 t) 5 (fun j t => (clsd (fun o => v_X5_waitsNow m (nI o)) t ∨ j < cnt t) ∧ low5 t) (fun j t _ ht => ⟨rd_step (rd_M m) hl (low5_low ht.2) ht.1, by
    show low5 (lp (rdM m t) 8 0 t)
    rw [(in_5 hD t ht.2).1]; exact (in_5 hD t ht.2).2⟩) 5 0 (v_X5_waitsNow m (nI h)) rfl ⟨clsd_or _ _, hD h hh⟩
  have c : clsd (fun o => v_X5_waitsNow m (nI o)) (lp (fun _ t => lp (rdM m t) 8 0 t) 5 0 (v_X5_waitsNow m (nI h))) := by
    rcases k.1 with c | c
    · exact c
    · have := low5_cnt k.2
      omega
  rw [eM, show lp (fun _ t => lp (rdM m t) 8 0 t) 8 0 (v_X5_waitsNow m (nI h)) = lp (fun _ t => lp (rdM m t) 8 0 t) 3 (0 + 5) (lp (fun _ t => lp (rdM m t) 8 0 t) 5 0 (v_X5_waitsNow m (nI h))) from lp_add _ 5 3 0 _]
  rw [lp_id (fun _ t => lp (rdM m t) 8 0 t) 8 _ 3 (0 + 5) rfl (fun i _ _ => rd_cl (rd_M m) c)]
  exact e5.1
theorem r_over (HQ : RQ rr rm rp (zz m)) (H : LQ a (zz m)) (HK : LK a (zz m)) {h : Nat} (hh : h < 5) : Rn ML_over [vR 8 1 0, vR 8 2 0, vR 8 3 0, vI (nI h)] (setA M a) (some (vI (v_X5_waitsOver m (nI h)))) (setA M a) := by
  rw [over_5 (fun o ho => low5_wn HQ H HK ho) (h := h) (by omega)]
  refine rn_of [some (vR 8 1 0), some (vR 8 2 0), some (vR 8 3 0), some (vI (nI h)), none, none, none] rfl ?_
  refine an_b 4 (pc2 := 4) (L2 := [some (vR 8 1 0), some (vR 8 2 0), some (vR 8 3 0), some (vI (nI h)), none, none, none]) (st2 := [vI (nI h), vR 8 3 0, vR 8 2 0, vR 8 1 0]) (m1 := (setA M a)) rfl ?_
  refine an_call (r_waits HQ H HK hh) rfl rfl rfl rfl ?_
  refine an_b 3 (pc2 := 12) (L2 := [some (vR 8 1 0), some (vR 8 2 0), some (vR 8 3 0), some (vI (nI h)), some (vI (v_X5_waitsNow m (nI h))), some (vI (0 : Int32)), none]) (st2 := []) (m1 := (setA M a)) rfl ?_
  refine re_lp (fun _ t => lp (rdM m t) 5 0 t) (fun j x => (12, [some (vR 8 1 0), some (vR 8 2 0), some (vR 8 3 0), some (vI (nI h)), some (vI x), some (vI (nI j)), none], [], setA M a)) 5 (fun x => (12, [some (vR 8 1 0), some (vR 8 2 0), some (vR 8 3 0), some (vI (nI h)), some (vI x), some (vI (nI 5)), none], [], setA M a)) (fun j x hj v9 m9 K => ?_) (fun x v9 m9 K => K) 5 0 _ rfl _ _ ?_
  · show An ML_over 12 [some (vR 8 1 0), some (vR 8 2 0), some (vR 8 3 0), some (vI (nI h)), some (vI x), some (vI (nI j)), none] [] (setA M a) v9 m9
    refine an_b 3 (pc2 := if (5 : Int32) ≤ (nI j) then 63 else 18) (L2 := [some (vR 8 1 0), some (vR 8 2 0), some (vR 8 3 0), some (vI (nI h)), some (vI x), some (vI (nI j)), none]) (st2 := []) (m1 := (setA M a)) rfl ?_
    refine an_f (nI_ge (b := 5) hj (by omega)) ?_
    refine an_b 2 (pc2 := 21) (L2 := [some (vR 8 1 0), some (vR 8 2 0), some (vR 8 3 0), some (vI (nI h)), some (vI x), some (vI (nI j)), some (vI (0 : Int32))]) (st2 := []) (m1 := (setA M a)) rfl ?_
    refine re_lp (rdM m x) (fun o t => (21, [some (vR 8 1 0), some (vR 8 2 0), some (vR 8 3 0), some (vI (nI h)), some (vI t), some (vI (nI j)), some (vI (nI o))], [], setA M a)) 5 (fun t => (21, [some (vR 8 1 0), some (vR 8 2 0), some (vR 8 3 0), some (vI (nI h)), some (vI t), some (vI (nI j)), some (vI (nI 5))], [], setA M a)) (fun o t ho v8 m8 K8 => ?_) (fun t v8 m8 K8 => K8) 5 0 _ rfl _ _ ?_
    · show An ML_over 21 [some (vR 8 1 0), some (vR 8 2 0), some (vR 8 3 0), some (vI (nI h)), some (vI t), some (vI (nI j)), some (vI (nI o))] [] (setA M a) v8 m8
      have K9 : An ML_over 21 [some (vR 8 1 0), some (vR 8 2 0), some (vR 8 3 0), some (vI (nI h)), some (vI (rdM m x o t)), some (vI (nI j)), some (vI (nI (o + 1)))] [] (setA M a) v8 m8 := K8
      rw [← nI_1] at K9
      refine an_b 3 (pc2 := if (5 : Int32) ≤ (nI o) then 57 else 27) (L2 := [some (vR 8 1 0), some (vR 8 2 0), some (vR 8 3 0), some (vI (nI h)), some (vI t), some (vI (nI j)), some (vI (nI o))]) (st2 := []) (m1 := (setA M a)) rfl ?_
      refine an_f (nI_ge (b := 5) ho (by omega)) ?_
      refine an_b 7 (pc2 := if ¬ ((t >>> ((nI o) &&& (31 : Int32))) &&& (1 : Int32)) = (1 : Int32) then 51 else 38) (L2 := [some (vR 8 1 0), some (vR 8 2 0), some (vR 8 3 0), some (vI (nI h)), some (vI t), some (vI (nI j)), some (vI (nI o))]) (st2 := []) (m1 := (setA M a)) rfl ?_
      by_cases c : ((t >>> (nI o &&& (31 : Int32))) &&& (1 : Int32)) = (1 : Int32)
      · refine an_f (fun q => q c) ?_
        rw [rdM_if m x o t (by omega), if_pos ((bit_q1 (by omega)).mp c)] at K9
        refine an_b 5 (pc2 := 45) (L2 := [some (vR 8 1 0), some (vR 8 2 0), some (vR 8 3 0), some (vI (nI h)), some (vI t), some (vI (nI j)), some (vI (nI o))]) (st2 := [vI (nI o), vR 8 3 0, vR 8 2 0, vR 8 1 0, vI t]) (m1 := (setA M a)) rfl ?_
        refine an_call (r_waits HQ H HK ho) rfl rfl rfl rfl ?_
        refine an_b 4 (pc2 := 21) (L2 := [some (vR 8 1 0), some (vR 8 2 0), some (vR 8 3 0), some (vI (nI h)), some (vI (t ||| (v_X5_waitsNow m (nI o)))), some (vI (nI j)), some (vI ((nI o) + (1 : Int32)))]) (st2 := []) (m1 := (setA M a)) rfl ?_
        exact K9
      · refine an_t c ?_
        rw [rdM_if m x o t (by omega), if_neg (fun q => c ((bit_q1 (by omega)).mpr q))] at K9
        refine an_b 2 (pc2 := 21) (L2 := [some (vR 8 1 0), some (vR 8 2 0), some (vR 8 3 0), some (vI (nI h)), some (vI t), some (vI (nI j)), some (vI ((nI o) + (1 : Int32)))]) (st2 := []) (m1 := (setA M a)) rfl ?_
        exact K9
    · show An ML_over 21 [some (vR 8 1 0), some (vR 8 2 0), some (vR 8 3 0), some (vI (nI h)), some (vI (lp (rdM m x) 5 0 x)), some (vI (nI j)), some (vI (nI 5))] [] (setA M a) v9 m9
      refine an_b 3 (pc2 := if (5 : Int32) ≤ (nI 5) then 57 else 27) (L2 := [some (vR 8 1 0), some (vR 8 2 0), some (vR 8 3 0), some (vI (nI h)), some (vI (lp (rdM m x) 5 0 x)), some (vI (nI j)), some (vI (nI 5))]) (st2 := []) (m1 := (setA M a)) rfl ?_
      refine an_t (nI_le (Nat.le_refl 5) (by omega)) ?_
      refine an_b 2 (pc2 := 12) (L2 := [some (vR 8 1 0), some (vR 8 2 0), some (vR 8 3 0), some (vI (nI h)), some (vI (lp (rdM m x) 5 0 x)), some (vI ((nI j) + (1 : Int32))), some (vI (nI 5))]) (st2 := []) (m1 := (setA M a)) rfl ?_
      refine an_weak (L := [some (vR 8 1 0), some (vR 8 2 0), some (vR 8 3 0), some (vI (nI h)), some (vI (lp (rdM m x) 5 0 x)), some (vI (nI (j + 1))), none]) ⟨rfl, rfl, rfl, rfl, rfl, by rw [nI_1], trivial⟩ ?_
      exact K
  show An ML_over 12 [some (vR 8 1 0), some (vR 8 2 0), some (vR 8 3 0), some (vI (nI h)), some (vI (lp (fun _ t => lp (rdM m t) 5 0 t) 5 0 (v_X5_waitsNow m (nI h)))), some (vI (nI 5)), none] [] (setA M a) _ _
  refine an_b 3 (pc2 := if (5 : Int32) ≤ (nI 5) then 63 else 18) (L2 := [some (vR 8 1 0), some (vR 8 2 0), some (vR 8 3 0), some (vI (nI h)), some (vI (lp (fun _ t => lp (rdM m t) 5 0 t) 5 0 (v_X5_waitsNow m (nI h)))), some (vI (nI 5)), none]) (st2 := []) (m1 := (setA M a)) rfl ?_
  refine an_t (nI_le (Nat.le_refl 5) (by omega)) ?_
  refine an_b 1 (pc2 := 65) (L2 := [some (vR 8 1 0), some (vR 8 2 0), some (vR 8 3 0), some (vI (nI h)), some (vI (lp (fun _ t => lp (rdM m t) 5 0 t) 5 0 (v_X5_waitsNow m (nI h)))), some (vI (nI 5)), none]) (st2 := [vI (lp (fun _ t => lp (rdM m t) 5 0 t) 5 0 (v_X5_waitsNow m (nI h)))]) (m1 := (setA M a)) rfl ?_
  exact an_ret rfl rfl rfl rfl rfl
end
