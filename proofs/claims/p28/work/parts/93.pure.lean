/-! the ring's loser as the law finds it; places taken and left; what losing takes -/
def inR (m : PM) (h j : Nat) : Prop := bit (v_X5_waitsOver m (nI h)) j = true ∧ bit (v_X5_waitsOver m (nI j)) h = true
def wkZ (m : PM) (j : Nat) : Int := (v_X5_workOf m j).toInt
/-- of the hands from j to below N: none is in the ring, or s is the one with the least work, the highest of them -/
def LSr (m : PM) (h j N : Nat) (s : Int32) : Prop := (s = -1 ∧ ∀ i, j ≤ i → i < N → ¬ inR m h i) ∨ ∃ l, j ≤ l ∧ l < N ∧ s = nI l ∧ inR m h l ∧ ∀ i, j ≤ i → i < N → inR m h i → wkZ m l ≤ wkZ m i ∧ (l < i → wkZ m l < wkZ m i)
theorem loser_c (m : PM) {h : Nat} (hh : h < 8) : LSr m h 0 8 (v_X5_loserFor m (nI h)) := by
  refine lp_inv (b_X5_loserFor_1 m (nI h)) 8 (fun j s => LSr m h 0 j s) (fun j s hj hs => ?_) 8 0 (-1) rfl (Or.inl ⟨rfl, fun i _ q => by omega⟩)
  have no : ¬ inR m h j → LSr m h 0 (j + 1) s := by
    intro c
    rcases hs with ⟨e, k⟩ | ⟨l, l0, l1, l2, l3, l4⟩
    · refine Or.inl ⟨e, fun i a b => ?_⟩
      by_cases q : i = j
      · rw [q]; exact c
      · exact k i a (by omega)
    · refine Or.inr ⟨l, l0, by omega, l2, l3, fun i a b d => ?_⟩
      by_cases q : i = j
      · rw [q] at d; exact absurd d c
      · exact l4 i a (by omega) d
  unfold b_X5_loserFor_1
  by_cases c1 : (v_X5_waitsOver m (nI h) >>> (nI j &&& (31 : Int32))) &&& (1 : Int32) = 1
  · rw [if_pos c1]
    by_cases c2 : (v_X5_waitsOver m (nI j) >>> (nI h &&& (31 : Int32))) &&& (1 : Int32) = 1
    · rw [if_pos c2]
      have hin : inR m h j := ⟨(bit_q1 (by omega)).mp c1, (bit_q1 (by omega)).mp c2⟩
      rcases hs with ⟨e, k⟩ | ⟨l, l0, l1, l2, l3, l4⟩
      · rw [if_pos e]
        refine Or.inr ⟨j, by omega, by omega, rfl, hin, fun i a b d => ?_⟩
        by_cases q : i = j
        · rw [q]; exact ⟨Int.le_refl _, fun u => by omega⟩
        · exact absurd d (k i a (by omega))
      · rw [if_neg (by rw [l2]; exact nI_nm1 (by omega)), l2, nI_clamp (by omega)]
        by_cases c3 : v_X5_workOf m l < v_X5_workOf m j
        · rw [if_pos c3]
          have c3' : wkZ m l < wkZ m j := Int32.lt_iff_toInt_lt.mp c3
          refine Or.inr ⟨l, l0, by omega, rfl, l3, fun i a b d => ?_⟩
          by_cases q : i = j
          · rw [q]; exact ⟨by omega, fun _ => c3'⟩
          · exact l4 i a (by omega) d
        · rw [if_neg c3]
          have c3' : ¬ wkZ m l < wkZ m j := fun q => c3 (Int32.lt_iff_toInt_lt.mpr q)
          refine Or.inr ⟨j, by omega, by omega, rfl, hin, fun i a b d => ?_⟩
          by_cases q : i = j
          · rw [q]; exact ⟨Int.le_refl _, fun u => by omega⟩
          · have := l4 i a (by omega) d
            exact ⟨by omega, fun u => by omega⟩
    · rw [if_neg c2]
      exact no (fun q => c2 ((bit_q1 (by omega)).mpr q.2))
  · rw [if_neg c1]
    exact no (fun q => c1 ((bit_q1 (by omega)).mpr q.1))
/-- the two agree -/
theorem loser_u {m : PM} {h : Nat} {s : Int32} (hh : h < 8) (h5 : ∀ i, i < 8 → inR m h i → i < 5) (H : LSr m h 0 5 s) : s = v_X5_loserFor m (nI h) := by
  rcases loser_c m hh with ⟨e, k⟩ | ⟨l, l0, l1, l2, l3, l4⟩
  · rcases H with ⟨e2, _⟩ | ⟨l, _, l1, _, l3, _⟩
    · rw [e, e2]
    · exact absurd l3 (k l (by omega) (by omega))
  · rcases H with ⟨_, k⟩ | ⟨q, q0, q1, q2, q3, q4⟩
    · exact absurd l3 (k l (by omega) (h5 l l1 l3))
    · rw [l2, q2]
      have a := l4 q (by omega) (by omega) q3
      have b := q4 l (by omega) (h5 l l1 l3) l3
      by_cases c : l < q
      · have := a.2 c; omega
      · by_cases c2 : q < l
        · have := b.2 c2; omega
        · rw [show q = l by omega]
/-- the places behind k moved up, n stood there -/
def enK (a : Nat → Nat → Int32) (r n k : Nat) : Nat → Nat → Int32 := fun j i => if j = 2 ∧ 5 * r + k < i ∧ i ≤ 5 * r + n then a 2 (i - 1) else a j i
theorem enK_n (a : Nat → Nat → Int32) (r n : Nat) : enK a r n n = a := by
  funext j i
  unfold enK
  rw [if_neg (by omega)]
theorem enK_x (a : Nat → Nat → Int32) {r n k i : Nat} (h : i ≤ 5 * r + k) : enK a r n k 2 i = a 2 i := by unfold enK; rw [if_neg (by omega)]
theorem enK_o (a : Nat → Nat → Int32) (r n k : Nat) {j : Nat} (h : ¬ j = 2) : enK a r n k j = a j := by
  funext i
  unfold enK
  rw [if_neg (fun q => h q.1)]
theorem enK_s (a : Nat → Nat → Int32) {r n k : Nat} (hk : k < n) : up2 (enK a r n (k + 1)) 2 (5 * r + (k + 1)) (a 2 (5 * r + k)) = enK a r n k := by
  funext j i
  unfold up2 enK
  by_cases h : j = 2 ∧ i = 5 * r + (k + 1)
  · obtain ⟨rfl, rfl⟩ := h
    rw [if_pos ⟨rfl, rfl⟩, if_pos ⟨rfl, by omega, by omega⟩]
    rfl
  · rw [if_neg h]
    by_cases c : j = 2 ∧ 5 * r + (k + 1) < i ∧ i ≤ 5 * r + n
    · rw [if_pos c, if_pos (by omega)]
    · rw [if_neg c, if_neg (by omega)]
def enA (a : Nat → Nat → Int32) (r pl n : Nat) (x : Int32) : Nat → Nat → Int32 := up2 (up2 (enK a r n pl) 2 (5 * r + pl) x) 3 r (nI (n + 1))
theorem la_enq {a : Nat → Nat → Int32} {z : Nat → Int32} {s : Nat × Int32} (H : LA a z s) {h r n pl md : Nat} (hh : h < 5) (hr : r < 6) (hn : z (125 + r) = nI n) (h5 : n < 5) (hpl : pl ≤ n) (m1 : 1 ≤ md) (m2 : md < 4) : LA (enA a r pl n (nI (h + 8 * md))) (enz z r h (nI md) pl n) s := by
  refine la_q H ⟨fun r2 hr2 => ?_, fun r2 g1 g2 => ?_⟩ (fun k k2 k3 => ?_) (fun i hi => enz_lo _ (by omega) (by omega) hpl hi)
  · obtain ⟨n2, n1, n3, n4, n5⟩ := H.2.1.1 r2 hr2
    by_cases e : r2 = r
    · subst e
      obtain rfl : n = n2 := (nI_eq (by omega) (by omega)).mp (hn.symm.trans n3)
      refine ⟨n + 1, by omega, enz_n _, ?_, fun q hq => ?_⟩
      · unfold enA
        rw [up2_s]
      · by_cases c : q = pl
        · subst c
          refine ⟨h, md, hh, m1, m2, enz_w _ (by omega) (by omega) hpl, enz_m _ (by omega) (by omega) hpl, ?_⟩
          unfold enA
          rw [up2_o _ _ _ _ (by decide), up2_s]
        · by_cases c2 : pl < q
          · obtain ⟨w, md2, w1, w2, w3, w4, w5, w6⟩ := n5 (q - 1) (by omega)
            refine ⟨w, md2, w1, w2, w3, ?_, ?_, ?_⟩
            · rw [enz_q _ (Or.inl rfl) (by omega) (by omega) (by omega) hpl (by omega) (fun k => c k.2), if_pos ⟨rfl, c2, by omega⟩]; exact w4
            · rw [enz_q _ (Or.inr rfl) (by omega) (by omega) (by omega) hpl (by omega) (fun k => c k.2), if_pos ⟨rfl, c2, by omega⟩]; exact w5
            · unfold enA
              rw [up2_o _ _ _ _ (by decide), up2_i _ _ _ (by omega)]
              unfold enK
              rw [if_pos ⟨rfl, by omega, by omega⟩, show 5 * r2 + q - 1 = 5 * r2 + (q - 1) by omega]; exact w6
          · obtain ⟨w, md2, w1, w2, w3, w4, w5, w6⟩ := n5 q (by omega)
            refine ⟨w, md2, w1, w2, w3, ?_, ?_, ?_⟩
            · rw [enz_q _ (Or.inl rfl) (by omega) (by omega) (by omega) hpl (by omega) (fun k => c k.2), if_neg (fun k => c2 k.2.1)]; exact w4
            · rw [enz_q _ (Or.inr rfl) (by omega) (by omega) (by omega) hpl (by omega) (fun k => c k.2), if_neg (fun k => c2 k.2.1)]; exact w5
            · unfold enA
              rw [up2_o _ _ _ _ (by decide), up2_i _ _ _ (by omega), enK_x _ (by omega)]; exact w6
    · refine ⟨n2, n1, ?_, ?_, fun q hq => ?_⟩
      · rw [enz_no _ (by omega) (by omega) e (by omega) hpl]; exact n3
      · unfold enA
        rw [up2_i _ _ _ e, up2_o _ _ _ _ (by decide), enK_o _ _ _ _ (by decide)]; exact n4
      · obtain ⟨w, md2, w1, w2, w3, w4, w5, w6⟩ := n5 q hq
        refine ⟨w, md2, w1, w2, w3, ?_, ?_, ?_⟩
        · rw [enz_q _ (Or.inl rfl) (by omega) (by omega) (by omega) hpl (by omega) (fun k => e k.1), if_neg (fun k => e k.1)]; exact w4
        · rw [enz_q _ (Or.inr rfl) (by omega) (by omega) (by omega) hpl (by omega) (fun k => e k.1), if_neg (fun k => e k.1)]; exact w5
        · unfold enA
          rw [up2_o _ _ _ _ (by decide), up2_i _ _ _ (by omega)]
          unfold enK
          rw [if_neg (by omega)]; exact w6
  · rw [enz_no _ (by omega) (by omega) (by omega) (by omega) hpl]; exact H.2.1.2 r2 g1 g2
  · unfold enA
    rw [up2_o _ _ _ _ k3, up2_o _ _ _ _ k2, enK_o _ _ _ _ k2]
/-- the locks of a hand are gone, as far as row j -/
def zK (a : Nat → Nat → Int32) (h j : Nat) : Nat → Nat → Int32 := fun k i => if k = 1 ∧ 6 * h ≤ i ∧ i < 6 * h + j then 0 else a k i
theorem zK_0 (a : Nat → Nat → Int32) (h : Nat) : zK a h 0 = a := by
  funext k i
  unfold zK
  rw [if_neg (by omega)]
theorem zK_s (a : Nat → Nat → Int32) (h j : Nat) : up2 (zK a h j) 1 (6 * h + j) 0 = zK a h (j + 1) := by
  funext k i
  unfold up2 zK
  by_cases c : k = 1 ∧ i = 6 * h + j
  · rw [if_pos c, if_pos (by omega)]
  · rw [if_neg c]
    by_cases c2 : k = 1 ∧ 6 * h ≤ i ∧ i < 6 * h + j
    · rw [if_pos c2, if_pos (by omega)]
    · rw [if_neg c2, if_neg (by omega)]
theorem zK_x (a : Nat → Nat → Int32) {h j i : Nat} (c : 6 * h + j ≤ i) : zK a h j 1 i = a 1 i := by unfold zK; rw [if_neg (by omega)]
theorem zK_o (a : Nat → Nat → Int32) (h j : Nat) {k : Nat} (c : ¬ k = 1) : zK a h j k = a k := by
  funext i
  unfold zK
  rw [if_neg (fun q => c q.1)]
theorem la_zK {a : Nat → Nat → Int32} {z : Nat → Int32} {s : Nat × Int32} (H : LA a z s) {h : Nat} (hh : h < 5) : LA (zK a h 6) (lzz z h 12) s := by
  refine la_lk H ⟨fun h2 r2 g1 g2 => ?_, fun h2 r2 g1 g2 c => ?_⟩ (fun k hk => zK_o _ _ _ hk) (fun i hi => lzz_o z (by omega))
  · by_cases e : h2 = h
    · subst e
      unfold zK lzz
      rw [if_pos (by omega), if_pos (by omega)]
    · rw [lzz_o z (by omega)]
      unfold zK
      rw [if_neg (by omega)]; exact H.1.1 h2 r2 g1 g2
  · by_cases e : h2 = h
    · subst e
      unfold lzz
      rw [if_pos (by omega)]
    · rw [lzz_o z (by omega)]; exact H.1.2 h2 r2 g1 g2 c
theorem la_cong {a : Nat → Nat → Int32} {z z2 : Nat → Int32} {s : Nat × Int32} (H : LA a z s) (e : ∀ i, i < 361 → z2 i = z i) : LA a z2 s := by
  obtain ⟨h1, h2, h3, h4⟩ := H
  refine ⟨⟨fun h r hh hr => ?_, fun h r hh hr c => ?_⟩, ⟨fun r hr => ?_, fun r g1 g2 => ?_⟩, fun k hk => ⟨fun h hh => ?_, fun h g1 g2 => ?_⟩, ?_⟩
  · rw [e _ (by omega)]; exact h1.1 h r hh hr
  · rw [e _ (by omega)]; exact h1.2 h r hh hr c
  · obtain ⟨n, n1, n2, n3, n4⟩ := h2.1 r hr
    refine ⟨n, n1, by rw [e _ (by omega)]; exact n2, n3, fun p hp => ?_⟩
    obtain ⟨w, md, w1, w2, w3, w4, w5, w6⟩ := n4 p hp
    exact ⟨w, md, w1, w2, w3, by rw [e _ (by omega)]; exact w4, by rw [e _ (by omega)]; exact w5, w6⟩
  · rw [e _ (by omega)]; exact h2.2 r g1 g2
  · rw [e _ (by omega)]; exact (h3 k hk).1 h hh
  · rw [e _ (by omega)]; exact (h3 k hk).2 h g1 g2
  · obtain ⟨t1, t2, t3, t4, t5, t6, t7, t8⟩ := h4
    refine ⟨fun r hr => ?_, ?_⟩
    · rw [e _ (by omega)]; exact t1 r hr
    · rw [e 3 (by omega), e 4 (by omega), e 0 (by omega), e 1 (by omega), e 2 (by omega)]
      refine ⟨t2, t3, t4, t5, t6, t7, t8.trans ?_⟩
      unfold hsum
      refine lp_cong 12 (fun j x hj => ?_) 12 0 0 rfl
      rw [e _ (by omega)]
theorem lq_a {a a2 : Nat → Nat → Int32} {z : Nat → Int32} (H : LQ a z) (e2 : a2 2 = a 2) (e3 : a2 3 = a 3) : LQ a2 z := by
  refine ⟨fun r hr => ?_, H.2⟩
  obtain ⟨n, n1, n2, n3, n4⟩ := H.1 r hr
  refine ⟨n, n1, n2, by rw [e3]; exact n3, fun p hp => ?_⟩
  rw [e2]
  exact n4 p hp
theorem lk_a {a a2 : Nat → Nat → Int32} {z : Nat → Int32} (H : LK a z) (e : a2 1 = a 1) : LK a2 z := ⟨fun h r g1 g2 => by rw [e]; exact H.1 h r g1 g2, H.2⟩
/-- asking keeps the class's own numbers together with the row -/
theorem ask_sa {m : PM} {c : Nat → Nat → Int32} (H : SA c (zz m)) {h r : Nat} {md : Int32} (hh : h < 8) (hr : r < 12) (hm : MO md) (hw : c 1 h = -1) : (∃ c1, SA c1 (zz (askA m h)) ∧ c1 1 h = -1) ∧ (∃ c3, SA c3 (zz (askC m h r md))) ∧ v_X5_isInRing (askR m h r md) (nI h) = 0 := by
  have A := sa_raise H (k := 9) (i := h) (by omega) (by omega) (by omega) (show h < 8 from hh) (c 9 h + 1)
  have eA : zz (askA m h) = upd (zz m) (zof 9 + h) (c 9 h + 1) := by
    unfold askA
    rw [zz_wI, H.2.2.1.1 9 h (by omega) (by omega) (show h < 8 from hh)]
    rfl
  rw [← eA] at A
  have w1 : up2 c 9 h (c 9 h + 1) 1 h = -1 := by rw [up2_o _ _ _ _ (by decide)]; exact hw
  obtain ⟨n, hn, en, kn⟩ := A.2.1.1 r hr
  have n8 : n < 8 := row_lt A.2.1 hh hr en hn w1
  have eq : qn (askA m h) r = n := qn_of en hn
  have pl := plz_le (zz (askA m h)) r h n
  have B : SA (enC (up2 c 9 h (c 9 h + 1)) h r md (plz (zz (askA m h)) r h n)) (zz (w_X5_enqueue (askA m h) r h md)) := by
    unfold w_X5_enqueue
    rw [zz_setz, eq]
    refine ⟨?_, rq_en A.2.1 hh hr en n8 pl hm w1, ?_, hf_en A.2.2.2 A.2.1 hh hr en n8 w1⟩
    · rw [enC_o _ _ _ _ _ _ (by decide) (by decide) (by decide)]
      exact rk_z A.1 (fun i a b => enz_lo _ hr n8 pl (by omega))
    · exact sc_c (c := up2 c 9 h (c 9 h + 1)) (sc_z A.2.2.1 (fun i a => enz_lo _ hr n8 pl (by omega))) (fun k a => enC_o _ _ _ _ _ _ (by omega) (by omega) (by omega))
  obtain ⟨_, c3, s1, s2, s3, _⟩ := settle_R m (w_X5_enqueue (askA m h) r h md) 0 hr B
  have s2 : SA c3 (zz (askC m h r md)) := s2
  exact ⟨⟨_, A, w1⟩, ⟨c3, s2⟩, ring_end hh 8 c3 _ s2 (cntP_N _ 8)⟩
theorem lose_sa {m : PM} {c : Nat → Nat → Int32} (H : SA c (zz m)) {h l : Nat} (hh : h < 8) (hi : ¬ v_X5_isInRing m (nI h) = 0) (hl : l < 8) (e : v_X5_loserFor m (nI h) = nI l) : ∃ c2, SA c2 (zz (w_X5_lose m l)) := by
  have hL := loser_R (sa_rgm m m 0 H) hh
  rw [if_neg hi, e] at hL
  obtain ⟨c2, _, q2, _, _⟩ := lose_R m m m 0 0 (nI h) 0 0 H hl hL
  exact ⟨c2, q2⟩
/-- few enough wait for a row, if one hand waits for none -/
theorem row_5 {a : Nat → Nat → Int32} {rr rm rp z : Nat → Int32} (HQ : RQ rr rm rp z) (H : LQ a z) {h r n : Nat} (hh : h < 5) (hr : r < 6) (hn : z (125 + r) = nI n) (h5 : n ≤ 5) (hw : rr h = -1) : n < 5 := by
  have k := row_cnt HQ (show r < 12 by omega) hn (by omega)
  have no : ∀ i, 5 ≤ i → i < 8 → ¬ rr i = nI r := by
    intro i h1 h2 e
    obtain ⟨n2, p, g1, g2, g3, _, g5, _⟩ := rq_w HQ h2 (by omega) e
    obtain ⟨n3, _, x1, _, x2⟩ := H.1 r hr
    obtain rfl : n2 = n3 := (nI_eq (by omega) (by omega)).mp (g1.symm.trans x1)
    obtain ⟨w, _, w1, _, _, w4, _⟩ := x2 p g3
    have : w = i := (nI_eq (by omega) (by omega)).mp (w4.symm.trans g5)
    omega
  have e8 : cntP (fun h => decide (rr h = nI r)) 8 = cntP (fun h => decide (rr h = nI r)) 5 := by
    rw [cntP_s _ 7, cntP_s _ 6, cntP_s _ 5, if_neg (c := decide (rr 7 = nI r) = true) (by rw [decide_eq_true_eq]; exact no 7 (by omega) (by omega)), if_neg (c := decide (rr 6 = nI r) = true) (by rw [decide_eq_true_eq]; exact no 6 (by omega) (by omega)), if_neg (c := decide (rr 5 = nI r) = true) (by rw [decide_eq_true_eq]; exact no 5 (by omega) (by omega))]
    rfl
  rw [e8] at k
  have := cntP_lt (fun h => decide (rr h = nI r)) (h := h) (decide_eq_false (by rw [hw]; exact fun q => nI_nm1 (show r < 2 ^ 31 by omega) q.symm)) 5 hh
  omega
