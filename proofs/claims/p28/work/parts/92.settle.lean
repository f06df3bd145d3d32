/-! the law's leave and settle -/
theorem up2_s (a : Nat → Nat → Int32) (k i : Nat) (x : Int32) : up2 a k i x k i = x := by unfold up2; rw [if_pos ⟨rfl, rfl⟩]
theorem up2_i (a : Nat → Nat → Int32) (k : Nat) {i j : Nat} (x : Int32) (h : ¬ j = i) : up2 a k i x k j = a k j := by unfold up2; rw [if_neg (fun q => h q.2)]
def lvK (a : Nat → Nat → Int32) (r p n k : Nat) : Nat → Nat → Int32 := fun j i => if j = 3 ∧ i = r then nI (n - 1) else if j = 2 ∧ 5 * r + p ≤ i ∧ i < 5 * r + k then a 2 (i + 1) else a j i
theorem lvK_0 (a : Nat → Nat → Int32) (r p n : Nat) : up2 a 3 r (nI (n - 1)) = lvK a r p n p := by
  funext j i
  unfold up2 lvK
  by_cases h : j = 3 ∧ i = r
  · rw [if_pos h, if_pos h]
  · rw [if_neg h, if_neg h, if_neg (by omega)]
theorem lvK_n (a : Nat → Nat → Int32) (r p n k : Nat) : lvK a r p n k 3 r = nI (n - 1) := by unfold lvK; rw [if_pos ⟨rfl, rfl⟩]
theorem lvK_x (a : Nat → Nat → Int32) {r p n k i : Nat} (h : 5 * r + k ≤ i) : lvK a r p n k 2 i = a 2 i := by unfold lvK; rw [if_neg (by omega), if_neg (by omega)]
theorem lvK_s (a : Nat → Nat → Int32) {r p n k : Nat} (hp : p ≤ k) : up2 (lvK a r p n k) 2 (5 * r + k) (a 2 (5 * r + (k + 1))) = lvK a r p n (k + 1) := by
  funext j i
  unfold up2 lvK
  by_cases h : j = 2 ∧ i = 5 * r + k
  · obtain ⟨rfl, rfl⟩ := h
    rw [if_pos ⟨rfl, rfl⟩, if_neg (by omega), if_pos ⟨rfl, by omega, by omega⟩]
    rfl
  · rw [if_neg h]
    by_cases h3 : j = 3 ∧ i = r
    · rw [if_pos h3, if_pos h3]
    · rw [if_neg h3, if_neg h3]
      by_cases c : j = 2 ∧ 5 * r + p ≤ i ∧ i < 5 * r + k
      · rw [if_pos c, if_pos (by omega)]
      · rw [if_neg c, if_neg (by omega)]
theorem lvK_o (a : Nat → Nat → Int32) (r p n k : Nat) {j : Nat} (h2 : ¬ j = 2) (h3 : ¬ j = 3) : lvK a r p n k j = a j := by
  funext i
  unfold lvK
  rw [if_neg (fun q => h3 q.1), if_neg (fun q => h2 q.1)]
theorem r_leave {M : PM} {a : Nat → Nat → Int32} {r p n : Nat} (hr : r < 6) (hn : a 3 r = nI n) (h5 : n ≤ 5) (hp : p < n) : Rn ML_leave [vR 8 2 0, vR 8 3 0, vI (nI r), vI (nI p)] (setA M a) none (setA M (lvK a r p n (n - 1))) := by
  refine rn_of [some (vR 8 2 0), some (vR 8 3 0), some (vI (nI r)), some (vI (nI p)), none] rfl ?_
  refine an_b 3 (pc2 := 3) (L2 := [some (vR 8 2 0), some (vR 8 3 0), some (vI (nI r)), some (vI (nI p)), none]) (st2 := [vI (nI r), vR 8 3 0, vI (nI r), vR 8 3 0]) (m1 := (setA M a)) rfl ?_
  refine an_la 3 r (by decide) (by show _ < 6; omega) rfl rfl ?_
  refine an_b 2 (pc2 := 6) (L2 := [some (vR 8 2 0), some (vR 8 3 0), some (vI (nI r)), some (vI (nI p)), none]) (st2 := [vI ((a 3 r) - (1 : Int32)), vI (nI r), vR 8 3 0]) (m1 := (setA M a)) rfl ?_
  refine an_sa 3 r (by decide) (by show _ < 6; omega) rfl rfl ?_
  have e1 : a 3 r - (1 : Int32) = nI (n - 1) := by
    rw [hn, show n = n - 1 + 1 by omega, nI_pred]
    congr 1
  rw [e1, lvK_0 a r p n]
  refine an_b 2 (pc2 := 10) (L2 := [some (vR 8 2 0), some (vR 8 3 0), some (vI (nI r)), some (vI (nI p)), some (vI (nI p))]) (st2 := []) (m1 := (setA M (lvK a r p n p))) rfl ?_
  suffices K : ∀ d k, p ≤ k → k + d = n - 1 → An ML_leave 10 [some (vR 8 2 0), some (vR 8 3 0), some (vI (nI r)), some (vI (nI p)), some (vI (nI k))] [] (setA M (lvK a r p n k)) (.inl none) (setA M (lvK a r p n (n - 1))) from K (n - 1 - p) p (Nat.le_refl _) (by omega)
  intro d
  induction d with
  | zero =>
    intro k hk hd
    obtain rfl : k = n - 1 := by omega
    refine an_b 3 (pc2 := 14) (L2 := [some (vR 8 2 0), some (vR 8 3 0), some (vI (nI r)), some (vI (nI p)), some (vI (nI (n - 1)))]) (st2 := [vI (nI r), vR 8 3 0, vI (nI (n - 1))]) (m1 := (setA M (lvK a r p n (n - 1)))) rfl ?_
    refine an_la 3 r (by decide) (by show _ < 6; omega) rfl rfl ?_
    refine an_b 1 (pc2 := if (nI (n - 1)) ≤ (nI (n - 1)) then 42 else 18) (L2 := [some (vR 8 2 0), some (vR 8 3 0), some (vI (nI r)), some (vI (nI p)), some (vI (nI (n - 1)))]) (st2 := []) (m1 := (setA M (lvK a r p n (n - 1)))) (by rw [lvK_n]; rfl) ?_
    refine an_t (nI_le (Nat.le_refl _) (by omega)) ?_
    exact an_ret rfl rfl rfl rfl rfl
  | succ d ih =>
    intro k hk hd
    refine an_b 3 (pc2 := 14) (L2 := [some (vR 8 2 0), some (vR 8 3 0), some (vI (nI r)), some (vI (nI p)), some (vI (nI k))]) (st2 := [vI (nI r), vR 8 3 0, vI (nI k)]) (m1 := (setA M (lvK a r p n k))) rfl ?_
    refine an_la 3 r (by decide) (by show _ < 6; omega) rfl rfl ?_
    refine an_b 1 (pc2 := if (nI (n - 1)) ≤ (nI k) then 42 else 18) (L2 := [some (vR 8 2 0), some (vR 8 3 0), some (vI (nI r)), some (vI (nI p)), some (vI (nI k))]) (st2 := []) (m1 := (setA M (lvK a r p n k))) (by rw [lvK_n]; rfl) ?_
    refine an_f (nI_ge (by omega) (by omega)) ?_
    refine an_b 14 (pc2 := 34) (L2 := [some (vR 8 2 0), some (vR 8 3 0), some (vI (nI r)), some (vI (nI p)), some (vI (nI k))]) (st2 := [vI ((((5 : Int32) * (nI r)) + (nI k)) + (1 : Int32)), vR 8 2 0, vI (((5 : Int32) * (nI r)) + (nI k)), vR 8 2 0]) (m1 := (setA M (lvK a r p n k))) rfl ?_
    refine an_la 2 (5 * r + (k + 1)) (by decide) (by show _ < 36; omega) (by simp only [ix_lit, pk_mul, nI_add]; rfl) rfl ?_
    rw [lvK_x a (show 5 * r + k ≤ 5 * r + (k + 1) by omega)]
    refine an_sa 2 ((5 * r) + k) (by decide) (by show _ < 36; omega) (by simp only [ix_lit, pk_mul, nI_add]) rfl ?_
    rw [lvK_s a hk]
    refine an_b 2 (pc2 := 10) (L2 := [some (vR 8 2 0), some (vR 8 3 0), some (vI (nI r)), some (vI (nI p)), some (vI ((nI k) + (1 : Int32)))]) (st2 := []) (m1 := (setA M (lvK a r p n (k + 1)))) rfl ?_
    rw [nI_1]
    exact ih (k + 1) (by omega) (by omega)
theorem la_q {a a2 : Nat → Nat → Int32} {z z2 : Nat → Int32} {s : Nat × Int32} (H : LA a z s) (hq : LQ a2 z2) (ha : ∀ k, ¬ k = 2 → ¬ k = 3 → a2 k = a k) (hz : ∀ i, i < 125 ∨ 329 ≤ i → z2 i = z i) : LA a2 z2 s := by
  obtain ⟨h1, h2, h3, h4⟩ := H
  refine ⟨⟨fun h r hh hr => ?_, fun h r hh hr c => ?_⟩, hq, fun k hk => ⟨fun h hh => ?_, fun h g1 g2 => ?_⟩, ?_⟩
  · rw [ha 1 (by decide) (by decide), hz _ (by omega)]; exact h1.1 h r hh hr
  · rw [hz _ (by omega)]; exact h1.2 h r hh hr c
  · rw [ha (5 + k) (by omega) (by omega), hz _ (by omega)]; exact (h3 k hk).1 h hh
  · rw [hz _ (by omega)]; exact (h3 k hk).2 h g1 g2
  · obtain ⟨t1, t2, t3, t4, t5, t6, t7, t8⟩ := h4
    refine ⟨fun r hr => ?_, ?_⟩
    · rw [ha 4 (by decide) (by decide), hz _ (by omega)]; exact t1 r hr
    · rw [ha 0 (by decide) (by decide), hz 3 (by omega), hz 4 (by omega), hz 0 (by omega), hz 1 (by omega), hz 2 (by omega)]
      refine ⟨t2, t3, t4, t5, t6, t7, t8.trans ?_⟩
      unfold hsum
      refine lp_cong 12 (fun j x hj => ?_) 12 0 0 rfl
      rw [hz _ (by omega)]
theorem la_lk {a a2 : Nat → Nat → Int32} {z z2 : Nat → Int32} {s : Nat × Int32} (H : LA a z s) (hq : LK a2 z2) (ha : ∀ k, ¬ k = 1 → a2 k = a k) (hz : ∀ i, i < 5 ∨ 101 ≤ i → z2 i = z i) : LA a2 z2 s := by
  obtain ⟨h1, h2, h3, h4⟩ := H
  refine ⟨hq, ⟨fun r hr => ?_, fun r g1 g2 => ?_⟩, fun k hk => ⟨fun h hh => ?_, fun h g1 g2 => ?_⟩, ?_⟩
  · obtain ⟨n, n1, n2, n3, n4⟩ := h2.1 r hr
    refine ⟨n, n1, by rw [hz _ (by omega)]; exact n2, by rw [ha 3 (by decide)]; exact n3, fun p hp => ?_⟩
    obtain ⟨w, md, w1, w2, w3, w4, w5, w6⟩ := n4 p hp
    exact ⟨w, md, w1, w2, w3, by rw [hz _ (by omega)]; exact w4, by rw [hz _ (by omega)]; exact w5, by rw [ha 2 (by decide)]; exact w6⟩
  · rw [hz _ (by omega)]; exact h2.2 r g1 g2
  · rw [ha (5 + k) (by omega), hz _ (by omega)]; exact (h3 k hk).1 h hh
  · rw [hz _ (by omega)]; exact (h3 k hk).2 h g1 g2
  · obtain ⟨t1, t2, t3, t4, t5, t6, t7, t8⟩ := h4
    refine ⟨fun r hr => ?_, ?_⟩
    · rw [ha 4 (by decide), hz _ (by omega)]; exact t1 r hr
    · rw [ha 0 (by decide), hz 3 (by omega), hz 4 (by omega), hz 0 (by omega), hz 1 (by omega), hz 2 (by omega)]
      refine ⟨t2, t3, t4, t5, t6, t7, t8.trans ?_⟩
      unfold hsum
      refine lp_cong 12 (fun j x hj => ?_) 12 0 0 rfl
      rw [hz _ (by omega)]
/-- a lock is set -/
theorem la_set {a : Nat → Nat → Int32} {z : Nat → Int32} {s : Nat × Int32} (H : LA a z s) {h r : Nat} (hh : h < 5) (hr : r < 6) (x : Int32) : LA (up2 a 1 (6 * h + r) x) (upd z (5 + 12 * h + r) x) s := by
  refine la_lk H ⟨fun h2 r2 g1 g2 => ?_, fun h2 r2 g1 g2 c => ?_⟩ (fun k hk => up2_o _ _ _ _ hk) (fun i hi => upd_o _ _ _ (by omega))
  · by_cases e : h2 = h ∧ r2 = r
    · obtain ⟨rfl, rfl⟩ := e
      rw [up2_s, upd_s]
    · rw [up2_i _ _ _ (by omega), upd_o _ _ _ (by omega)]; exact H.1.1 h2 r2 g1 g2
  · rw [upd_o _ _ _ (by omega)]; exact H.1.2 h2 r2 g1 g2 c
/-- a counter is set -/
theorem la_cnt {a : Nat → Nat → Int32} {z : Nat → Int32} {s : Nat × Int32} (H : LA a z s) {k h : Nat} (hk : k < 4) (hh : h < 5) (x : Int32) : LA (up2 a (5 + k) h x) (upd z (329 + 8 * k + h) x) s := by
  obtain ⟨h1, h2, h3, h4⟩ := H
  refine ⟨⟨fun h2 r2 g1 g2 => ?_, fun h2 r2 g1 g2 c => ?_⟩, ⟨fun r hr => ?_, fun r g1 g2 => ?_⟩, fun k2 hk2 => ⟨fun h2 g1 => ?_, fun h2 g1 g2 => ?_⟩, ?_⟩
  · rw [up2_o _ _ _ _ (by omega), upd_o _ _ _ (by omega)]; exact h1.1 h2 r2 g1 g2
  · rw [upd_o _ _ _ (by omega)]; exact h1.2 h2 r2 g1 g2 c
  · obtain ⟨n, n1, n2, n3, n4⟩ := h2.1 r hr
    refine ⟨n, n1, by rw [upd_o _ _ _ (by omega)]; exact n2, by rw [up2_o _ _ _ _ (by omega)]; exact n3, fun p hp => ?_⟩
    obtain ⟨w, md, w1, w2, w3, w4, w5, w6⟩ := n4 p hp
    exact ⟨w, md, w1, w2, w3, by rw [upd_o _ _ _ (by omega)]; exact w4, by rw [upd_o _ _ _ (by omega)]; exact w5, by rw [up2_o _ _ _ _ (by omega)]; exact w6⟩
  · rw [upd_o _ _ _ (by omega)]; exact h2.2 r g1 g2
  · by_cases e : k2 = k ∧ h2 = h
    · obtain ⟨rfl, rfl⟩ := e
      rw [up2_s, upd_s]
    · rw [upd_o _ _ _ (by omega), ← (h3 k2 hk2).1 h2 g1]
      by_cases e2 : k2 = k
      · rw [e2, up2_i _ _ _ (by omega)]
      · rw [up2_o _ _ _ _ (by omega)]
  · rw [upd_o _ _ _ (by omega)]; exact (h3 k2 hk2).2 h2 g1 g2
  · obtain ⟨t1, t2, t3, t4, t5, t6, t7, t8⟩ := h4
    refine ⟨fun r hr => ?_, ?_⟩
    · rw [up2_o _ _ _ _ (by omega), upd_o _ _ _ (by omega)]; exact t1 r hr
    · rw [up2_o _ _ _ _ (by omega), upd_o _ _ _ (by omega), upd_o _ _ _ (by omega), upd_o _ _ _ (by omega), upd_o _ _ _ (by omega), upd_o _ _ _ (by omega)]
      refine ⟨t2, t3, t4, t5, t6, t7, t8.trans ?_⟩
      unfold hsum
      refine lp_cong 12 (fun j x hj => ?_) 12 0 0 rfl
      rw [upd_o _ _ _ (by omega)]
/-- a place is left -/
theorem la_leave {a : Nat → Nat → Int32} {z : Nat → Int32} {s : Nat × Int32} (H : LA a z s) {r p n : Nat} (hr : r < 6) (hn : z (125 + r) = nI n) (h5 : n ≤ 5) (hp : p < n) : LA (lvK a r p n (n - 1)) (uqz z r p n (n - 1)) s := by
  refine la_q H ⟨fun r2 hr2 => ?_, fun r2 g1 g2 => ?_⟩ (fun k k2 k3 => lvK_o _ _ _ _ _ k2 k3) (fun i hi => uqz_lo z (by omega) (by omega) hi)
  · obtain ⟨n2, n1, n3, n4, n5⟩ := H.2.1.1 r2 hr2
    by_cases e : r2 = r
    · subst e
      obtain rfl : n = n2 := (nI_eq (by omega) (by omega)).mp (hn.symm.trans n3)
      refine ⟨n - 1, by omega, uqz_n _ _ _ _ _, lvK_n _ _ _ _ _, fun q hq => ?_⟩
      by_cases c : p ≤ q
      · obtain ⟨w, md, w1, w2, w3, w4, w5, w6⟩ := n5 (q + 1) (by omega)
        refine ⟨w, md, w1, w2, w3, ?_, ?_, ?_⟩
        · rw [uqz_q z (Or.inl rfl) (by omega) (by omega) (by omega) (by omega), if_pos ⟨rfl, c, hq⟩]; exact w4
        · rw [uqz_q z (Or.inr rfl) (by omega) (by omega) (by omega) (by omega), if_pos ⟨rfl, c, hq⟩]; exact w5
        · unfold lvK
          rw [if_neg (by omega), if_pos ⟨rfl, by omega, by omega⟩]; exact w6
      · obtain ⟨w, md, w1, w2, w3, w4, w5, w6⟩ := n5 q (by omega)
        refine ⟨w, md, w1, w2, w3, ?_, ?_, ?_⟩
        · rw [uqz_q z (Or.inl rfl) (by omega) (by omega) (by omega) (by omega), if_neg (fun k => c k.2.1)]; exact w4
        · rw [uqz_q z (Or.inr rfl) (by omega) (by omega) (by omega) (by omega), if_neg (fun k => c k.2.1)]; exact w5
        · unfold lvK
          rw [if_neg (by omega), if_neg (by omega)]; exact w6
    · refine ⟨n2, n1, ?_, ?_, fun q hq => ?_⟩
      · rw [uqz_no z (by omega) (by omega) e (by omega)]; exact n3
      · unfold lvK
        rw [if_neg (fun k => e k.2), if_neg (fun k => absurd k.1 (by decide))]; exact n4
      · obtain ⟨w, md, w1, w2, w3, w4, w5, w6⟩ := n5 q hq
        refine ⟨w, md, w1, w2, w3, ?_, ?_, ?_⟩
        · rw [uqz_q z (Or.inl rfl) (by omega) (by omega) (by omega) (by omega), if_neg (fun k => e k.1)]; exact w4
        · rw [uqz_q z (Or.inr rfl) (by omega) (by omega) (by omega) (by omega), if_neg (fun k => e k.1)]; exact w5
        · unfold lvK
          rw [if_neg (by omega), if_neg (by omega)]; exact w6
  · rw [uqz_no z (by omega) (by omega) (by omega) (by omega)]; exact H.2.1.2 r2 g1 g2
theorem cl_0 {a : Nat → Nat → Int32} {z : Nat → Int32} (H : LK a z) {r : Nat} (hr : r < 6) (md but : Int32) : clz z r md but = 0 ↔ ∀ j, j < 5 → ¬ clP a r md but (-1) j := by
  have H' : LK a (zz (zm z)) := by rw [zz_zm]; exact H
  unfold clz
  constructor
  · intro e j hj c
    have k := bit_clash (zm z) r md but j (by omega)
    rw [e, bit_0, (clB_P H' hr (show j < 8 by omega) md but).mpr ⟨hj, c⟩, Bool.and_true] at k
    exact absurd k.symm (by rw [decide_eq_false_iff_not]; omega)
  · intro h
    refine bit_ext (fun i hi => ?_)
    rw [bit_clash (zm z) r md but i hi, bit_0, Bool.and_eq_false_iff]
    by_cases c : i < 8
    · right
      cases hb : clB (zm z) r md but i with
      | false => rfl
      | true => exact absurd ((clB_P H' hr c md but).mp hb).2 (h i ((clB_P H' hr c md but).mp hb).1)
    · left; exact decide_eq_false c
theorem rn_settle {M : PM} {r : Nat} {s : Nat × Int32} (hr : r < 6) : ∀ (n : Nat) (a : Nat → Nat → Int32) (z : Nat → Int32) (c : Int32), LA a z s → z (125 + r) = nI n → n ≤ 5 → ∃ a2, An ML_settle 3 [some (vR 8 1 0), some (vR 8 2 0), some (vR 8 3 0), some (vR 8 7 0), some (vI (nI r)), some (vI c), none] [] (setA M a) (.inl (some (vI (stz r n z c).1))) (setA M a2) ∧ LA a2 (stz r n z c).2 s := by
  have last : ∀ (a : Nat → Nat → Int32) (c : Int32), An ML_settle 90 [some (vR 8 1 0), some (vR 8 2 0), some (vR 8 3 0), some (vR 8 7 0), some (vI (nI r)), some (vI c), none] [] (setA M a) (.inl (some (vI c))) (setA M a) := by
    intro a c
    refine an_b 1 (pc2 := 92) (L2 := [some (vR 8 1 0), some (vR 8 2 0), some (vR 8 3 0), some (vR 8 7 0), some (vI (nI r)), some (vI c), none]) (st2 := [vI c]) (m1 := (setA M a)) rfl ?_
    exact an_ret rfl rfl rfl rfl rfl
  intro n
  induction n with
  | zero =>
    intro a z c H hn _
    obtain ⟨n2, n1, n3, n4, n5⟩ := H.2.1.1 r hr
    refine ⟨a, ?_, H⟩
    have e0 : a 3 r = 0 := by rw [n4, ← n3, hn]; rfl
    refine an_b 2 (pc2 := 6) (L2 := [some (vR 8 1 0), some (vR 8 2 0), some (vR 8 3 0), some (vR 8 7 0), some (vI (nI r)), some (vI c), none]) (st2 := [vI (nI r), vR 8 3 0]) (m1 := (setA M a)) rfl ?_
    refine an_la 3 r (by decide) (by show _ < 6; omega) rfl rfl ?_
    refine an_b 1 (pc2 := if (0 : Int32) ≤ 0 then 90 else 10) (L2 := [some (vR 8 1 0), some (vR 8 2 0), some (vR 8 3 0), some (vR 8 7 0), some (vI (nI r)), some (vI c), none]) (st2 := []) (m1 := (setA M a)) (by rw [e0]; rfl) ?_
    exact an_t (by decide) (last a c)
  | succ n ih =>
    intro a z c H hn h5
    obtain ⟨n2, n1, n3, n4, n5⟩ := H.2.1.1 r hr
    obtain rfl : n + 1 = n2 := (nI_eq (by omega) (by omega)).mp (hn.symm.trans n3)
    obtain ⟨w, md, w1, w2, w3, w4, w5, w6⟩ := n5 0 (by omega)
    have w4 : z (137 + 8 * r) = nI w := w4
    have w5 : z (233 + 8 * r) = nI md := w5
    have w6 : a 2 (5 * r) = nI (w + 8 * md) := w6
    have er : a 2 (5 * r) - a 2 (5 * r) / 8 * 8 = nI w := by rw [w6]; exact rem8 w w1 md w3
    have ed : a 2 (5 * r) / 8 = nI md := by rw [w6]; exact div8 w w1 md w3
    have k0 := cl_0 H.1 hr (nI md) (nI w)
    obtain ⟨b, b1, b2, b3⟩ := r_clashes (M := M) (a := a) hr (nI md) (nI w) (-1)
    unfold stz
    rw [w4, w5]
    by_cases hc : clz z r (nI md) (nI w) = 0
    · have hb : b = 0 := b3.mpr (k0.mp hc)
      rw [if_pos hc]
      rw [nI_clamp (show w < 2 ^ 31 by omega)]
      have hA : LA (lvK (up2 (up2 a 1 (6 * w + r) (nI md)) 7 w (a 7 w + 1)) r 0 (n + 1) n) (grz z r 0 (n + 1) w) s := by
        have e7 : a 7 w = z (345 + w) := (H.2.2.1 2 (by omega)).1 w w1
        unfold grz
        rw [show z (233 + 8 * r + 0) = nI md from w5, ← e7]
        exact la_leave (la_cnt (la_set H w1 hr (nI md)) (k := 2) (by omega) w1 (a 7 w + 1)) hr (by rw [upd_o _ _ _ (by omega), upd_o _ _ _ (by omega)]; exact hn) h5 (by omega)
      have hN : grz z r 0 (n + 1) w (125 + r) = nI n := by
        unfold grz
        exact uqz_n _ _ _ _ _
      obtain ⟨a2, q1, q2⟩ := ih _ _ (c + 1) hA hN (by omega)
      refine ⟨a2, ?_, q2⟩
      refine an_b 2 (pc2 := 6) (L2 := [some (vR 8 1 0), some (vR 8 2 0), some (vR 8 3 0), some (vR 8 7 0), some (vI (nI r)), some (vI c), none]) (st2 := [vI (nI r), vR 8 3 0]) (m1 := (setA M a)) rfl ?_
      refine an_la 3 r (by decide) (by show _ < 6; omega) rfl rfl ?_
      refine an_b 1 (pc2 := if (nI (n + 1)) ≤ 0 then 90 else 10) (L2 := [some (vR 8 1 0), some (vR 8 2 0), some (vR 8 3 0), some (vR 8 7 0), some (vI (nI r)), some (vI c), none]) (st2 := []) (m1 := (setA M a)) (by rw [n4]; rfl) ?_
      refine an_f (nI_nle (by omega) (by omega)) ?_
      refine an_b 6 (pc2 := 18) (L2 := [some (vR 8 1 0), some (vR 8 2 0), some (vR 8 3 0), some (vR 8 7 0), some (vI (nI r)), some (vI c), none]) (st2 := [vI ((5 : Int32) * (nI r)), vR 8 2 0, vI (nI r), vR 8 1 0]) (m1 := (setA M a)) rfl ?_
      refine an_la 2 (5 * r) (by decide) (by show _ < 36; omega) (by simp only [ix_lit, pk_mul, nI_add]) rfl ?_
      refine an_b 6 (pc2 := 27) (L2 := [some (vR 8 1 0), some (vR 8 2 0), some (vR 8 3 0), some (vR 8 7 0), some (vI (nI r)), some (vI c), none]) (st2 := [vI ((5 : Int32) * (nI r)), vR 8 2 0, vI ((a 2 (5 * r)) / (8 : Int32)), vI (nI r), vR 8 1 0]) (m1 := (setA M a)) rfl ?_
      refine an_la 2 (5 * r) (by decide) (by show _ < 36; omega) (by simp only [ix_lit, pk_mul, nI_add]) rfl ?_
      refine an_b 3 (pc2 := 32) (L2 := [some (vR 8 1 0), some (vR 8 2 0), some (vR 8 3 0), some (vR 8 7 0), some (vI (nI r)), some (vI c), none]) (st2 := [vI (-1 : Int32), vI ((a 2 (5 * r)) - (a 2 (5 * r)) / (8 : Int32) * (8 : Int32)), vI ((a 2 (5 * r)) / (8 : Int32)), vI (nI r), vR 8 1 0]) (m1 := (setA M a)) rfl ?_
      rw [er, ed]
      refine an_call b1 rfl rfl rfl rfl ?_
      refine an_b 1 (pc2 := if ¬ b = 0 then 90 else 38) (L2 := [some (vR 8 1 0), some (vR 8 2 0), some (vR 8 3 0), some (vR 8 7 0), some (vI (nI r)), some (vI c), none]) (st2 := []) (m1 := (setA M a)) rfl ?_
      refine an_f (fun q => q hb) ?_
      refine an_b 4 (pc2 := 43) (L2 := [some (vR 8 1 0), some (vR 8 2 0), some (vR 8 3 0), some (vR 8 7 0), some (vI (nI r)), some (vI c), none]) (st2 := [vI ((5 : Int32) * (nI r)), vR 8 2 0]) (m1 := (setA M a)) rfl ?_
      refine an_la 2 (5 * r) (by decide) (by show _ < 36; omega) (by simp only [ix_lit, pk_mul, nI_add]) rfl ?_
      refine an_b 3 (pc2 := 49) (L2 := [some (vR 8 1 0), some (vR 8 2 0), some (vR 8 3 0), some (vR 8 7 0), some (vI (nI r)), some (vI c), some (vI ((a 2 (5 * r)) - (a 2 (5 * r)) / (8 : Int32) * (8 : Int32)))]) (st2 := []) (m1 := (setA M a)) rfl ?_
      rw [er]
      refine an_b 10 (pc2 := 63) (L2 := [some (vR 8 1 0), some (vR 8 2 0), some (vR 8 3 0), some (vR 8 7 0), some (vI (nI r)), some (vI c), some (vI (nI w))]) (st2 := [vI ((5 : Int32) * (nI r)), vR 8 2 0, vI (((6 : Int32) * (nI w)) + (nI r)), vR 8 1 0]) (m1 := (setA M a)) rfl ?_
      refine an_la 2 (5 * r) (by decide) (by show _ < 36; omega) (by simp only [ix_lit, pk_mul]) rfl ?_
      refine an_b 2 (pc2 := 67) (L2 := [some (vR 8 1 0), some (vR 8 2 0), some (vR 8 3 0), some (vR 8 7 0), some (vI (nI r)), some (vI c), some (vI (nI w))]) (st2 := [vI ((a 2 (5 * r)) / (8 : Int32)), vI (((6 : Int32) * (nI w)) + (nI r)), vR 8 1 0]) (m1 := (setA M a)) rfl ?_
      rw [ed]
      refine an_sa 1 (6 * w + r) (by decide) (by show _ < 30; omega) (by simp only [ix_lit, pk_mul, nI_add]) rfl ?_
      refine an_b 3 (pc2 := 72) (L2 := [some (vR 8 1 0), some (vR 8 2 0), some (vR 8 3 0), some (vR 8 7 0), some (vI (nI r)), some (vI c), some (vI (nI w))]) (st2 := [vI (nI w), vR 8 7 0, vI (nI w), vR 8 7 0]) (m1 := (setA M (up2 a 1 (6 * w + r) (nI md)))) rfl ?_
      refine an_la 7 w (by decide) (by show _ < 5; omega) rfl rfl ?_
      refine an_b 2 (pc2 := 75) (L2 := [some (vR 8 1 0), some (vR 8 2 0), some (vR 8 3 0), some (vR 8 7 0), some (vI (nI r)), some (vI c), some (vI (nI w))]) (st2 := [vI (((up2 a 1 (6 * w + r) (nI md)) 7 w) + (1 : Int32)), vI (nI w), vR 8 7 0]) (m1 := (setA M (up2 a 1 (6 * w + r) (nI md)))) rfl ?_
      refine an_sa 7 w (by decide) (by show _ < 5; omega) rfl rfl ?_
      refine an_b 4 (pc2 := 81) (L2 := [some (vR 8 1 0), some (vR 8 2 0), some (vR 8 3 0), some (vR 8 7 0), some (vI (nI r)), some (vI c), some (vI (nI w))]) (st2 := [vI (0 : Int32), vI (nI r), vR 8 3 0, vR 8 2 0]) (m1 := (setA M (up2 (up2 a 1 (6 * w + r) (nI md)) 7 w (((up2 a 1 (6 * w + r) (nI md)) 7 w) + (1 : Int32))))) rfl ?_
      rw [up2_o a 1 (6 * w + r) (nI md) (show ¬ 7 = 1 by decide)]
      refine an_call (r_leave (p := 0) (n := n + 1) hr (show up2 (up2 a 1 (6 * w + r) (nI md)) 7 w (a 7 w + 1) 3 r = nI (n + 1) by rw [up2_o _ _ _ _ (by decide), up2_o _ _ _ _ (by decide)]; exact n4) h5 (by omega)) rfl rfl rfl rfl ?_
      refine an_b 2 (pc2 := 3) (L2 := [some (vR 8 1 0), some (vR 8 2 0), some (vR 8 3 0), some (vR 8 7 0), some (vI (nI r)), some (vI (c + (1 : Int32))), some (vI (nI w))]) (st2 := []) (m1 := (setA M (lvK (up2 (up2 a 1 (6 * w + r) (nI md)) 7 w (a 7 w + 1)) r 0 (n + 1) n))) rfl ?_
      refine an_weak (L := [some (vR 8 1 0), some (vR 8 2 0), some (vR 8 3 0), some (vR 8 7 0), some (vI (nI r)), some (vI (c + 1)), none]) ⟨rfl, rfl, rfl, rfl, rfl, rfl, trivial⟩ ?_
      exact q1
    · have hb : ¬ b = 0 := fun q => hc (k0.mpr (b3.mp q))
      rw [if_neg hc]
      refine ⟨a, ?_, H⟩
      refine an_b 2 (pc2 := 6) (L2 := [some (vR 8 1 0), some (vR 8 2 0), some (vR 8 3 0), some (vR 8 7 0), some (vI (nI r)), some (vI c), none]) (st2 := [vI (nI r), vR 8 3 0]) (m1 := (setA M a)) rfl ?_
      refine an_la 3 r (by decide) (by show _ < 6; omega) rfl rfl ?_
      refine an_b 1 (pc2 := if (nI (n + 1)) ≤ 0 then 90 else 10) (L2 := [some (vR 8 1 0), some (vR 8 2 0), some (vR 8 3 0), some (vR 8 7 0), some (vI (nI r)), some (vI c), none]) (st2 := []) (m1 := (setA M a)) (by rw [n4]; rfl) ?_
      refine an_f (nI_nle (by omega) (by omega)) ?_
      refine an_b 6 (pc2 := 18) (L2 := [some (vR 8 1 0), some (vR 8 2 0), some (vR 8 3 0), some (vR 8 7 0), some (vI (nI r)), some (vI c), none]) (st2 := [vI ((5 : Int32) * (nI r)), vR 8 2 0, vI (nI r), vR 8 1 0]) (m1 := (setA M a)) rfl ?_
      refine an_la 2 (5 * r) (by decide) (by show _ < 36; omega) (by simp only [ix_lit, pk_mul, nI_add]) rfl ?_
      refine an_b 6 (pc2 := 27) (L2 := [some (vR 8 1 0), some (vR 8 2 0), some (vR 8 3 0), some (vR 8 7 0), some (vI (nI r)), some (vI c), none]) (st2 := [vI ((5 : Int32) * (nI r)), vR 8 2 0, vI ((a 2 (5 * r)) / (8 : Int32)), vI (nI r), vR 8 1 0]) (m1 := (setA M a)) rfl ?_
      refine an_la 2 (5 * r) (by decide) (by show _ < 36; omega) (by simp only [ix_lit, pk_mul, nI_add]) rfl ?_
      refine an_b 3 (pc2 := 32) (L2 := [some (vR 8 1 0), some (vR 8 2 0), some (vR 8 3 0), some (vR 8 7 0), some (vI (nI r)), some (vI c), none]) (st2 := [vI (-1 : Int32), vI ((a 2 (5 * r)) - (a 2 (5 * r)) / (8 : Int32) * (8 : Int32)), vI ((a 2 (5 * r)) / (8 : Int32)), vI (nI r), vR 8 1 0]) (m1 := (setA M a)) rfl ?_
      rw [er, ed]
      refine an_call b1 rfl rfl rfl rfl ?_
      refine an_b 1 (pc2 := if ¬ b = 0 then 90 else 38) (L2 := [some (vR 8 1 0), some (vR 8 2 0), some (vR 8 3 0), some (vR 8 7 0), some (vI (nI r)), some (vI c), none]) (st2 := []) (m1 := (setA M a)) rfl ?_
      refine an_t hb ?_
      exact last a c
section
variable {M m : PM} {a : Nat → Nat → Int32} {s : Nat × Int32}
theorem r_settle (H : LA a (zz m) s) {r : Nat} (hr : r < 6) : ∃ a2, Rn ML_settle [vR 8 1 0, vR 8 2 0, vR 8 3 0, vR 8 7 0, vI (nI r)] (setA M a) (some (vI (v_X5_settle m r))) (setA M a2) ∧ LA a2 (zz (w_X5_settle m r)) s := by
  obtain ⟨n, n1, n2, n3, n4⟩ := H.2.1.1 r hr
  have eq : qn m r = n := by
    unfold qn
    rw [n2]; exact nI_clamp (by omega)
  obtain ⟨a2, k1, k2⟩ := rn_settle (M := M) hr n a (zz m) 0 H n2 n1
  refine ⟨a2, ?_, ?_⟩
  · unfold v_X5_settle
    rw [eq]
    refine rn_of [some (vR 8 1 0), some (vR 8 2 0), some (vR 8 3 0), some (vR 8 7 0), some (vI (nI r)), none, none] rfl ?_
    refine an_b 2 (pc2 := 3) (L2 := [some (vR 8 1 0), some (vR 8 2 0), some (vR 8 3 0), some (vR 8 7 0), some (vI (nI r)), some (vI (0 : Int32)), none]) (st2 := []) (m1 := (setA M a)) rfl ?_
    exact k1
  · unfold w_X5_settle
    rw [zz_setz, eq]
    exact k2
end
