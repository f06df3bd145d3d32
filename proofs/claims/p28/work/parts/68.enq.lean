/-! enqueue; the order of holders in a queue -/
theorem enC_o (c : Nat → Nat → Int32) (h r : Nat) (md : Int32) (pl k : Nat) (h1 : ¬ k = 1) (h2 : ¬ k = 2) (h3 : ¬ k = 3) : enC c h r md pl k = c k := by
  unfold enC
  rw [up2_o _ _ _ _ h3, up2_o _ _ _ _ h2, up2_o _ _ _ _ h1]
  funext i
  unfold enJ
  rw [if_neg (fun q => h3 q.1)]
theorem enC_1 (c : Nat → Nat → Int32) (h r : Nat) (md : Int32) (pl i : Nat) : enC c h r md pl 1 i = if i = h then nI r else c 1 i := by
  unfold enC
  rw [up2_o _ _ _ _ (by decide), up2_o _ _ _ _ (by decide)]
  unfold up2 enJ
  by_cases q : i = h
  · rw [if_pos ⟨rfl, q⟩, if_pos q]
  · rw [if_neg (fun k => q k.2), if_neg (by omega), if_neg q]
theorem enC_2 (c : Nat → Nat → Int32) (h r : Nat) (md : Int32) (pl i : Nat) : enC c h r md pl 2 i = if i = h then md else c 2 i := by
  unfold enC
  rw [up2_o _ _ _ _ (by decide)]
  unfold up2 enJ
  by_cases q : i = h
  · rw [if_pos ⟨rfl, q⟩, if_pos q]
  · rw [if_neg (fun k => q k.2), if_neg (by omega), if_neg (by omega), if_neg q]
theorem enC_3 (c : Nat → Nat → Int32) (h r : Nat) (md : Int32) (pl : Nat) {i : Nat} (hi : i < 8) : enC c h r md pl 3 i = if i = h then nI pl else if c 1 i = nI r ∧ ¬ c 3 i < nI pl then c 3 i + 1 else c 3 i := by
  unfold enC up2 enJ
  by_cases q : i = h
  · rw [if_pos ⟨rfl, q⟩, if_pos q]
  · rw [if_neg (fun k => q k.2), if_neg (by omega), if_neg (by omega), if_neg q]
    by_cases k : c 1 i = nI r ∧ ¬ c 3 i < nI pl
    · rw [if_pos ⟨rfl, hi, k⟩, if_pos k]
    · rw [if_neg (fun u => k u.2.2), if_neg k]
section
variable (z : Nat → Int32) {r r2 h pl n q : Nat} {md : Int32}
theorem enz_n : enz z r h md pl n (125 + r) = nI (n + 1) := by unfold enz; rw [if_pos rfl]
theorem enz_no (hr : r < 12) (hr2 : r2 < 12) (hne : ¬ r2 = r) (hn : n < 8) (hpl : pl ≤ n) : enz z r h md pl n (125 + r2) = z (125 + r2) := by
  unfold enz eqz
  rw [if_neg (by omega), if_neg (by omega), if_neg (by omega), if_neg (by omega), if_neg (by omega)]
theorem enz_w (hr : r < 12) (hn : n < 8) (hpl : pl ≤ n) : enz z r h md pl n (137 + 8 * r + pl) = nI h := by
  unfold enz
  rw [if_neg (by omega), if_neg (by omega), if_pos rfl]
theorem enz_m (hr : r < 12) (hn : n < 8) (hpl : pl ≤ n) : enz z r h md pl n (233 + 8 * r + pl) = md := by
  unfold enz
  rw [if_neg (by omega), if_pos rfl]
theorem enz_q {B : Nat} (hB : B = 137 ∨ B = 233) (hr : r < 12) (hr2 : r2 < 12) (hn : n < 8) (hpl : pl ≤ n) (hq : q < 8) (hne : ¬ (r2 = r ∧ q = pl)) : enz z r h md pl n (B + 8 * r2 + q) = if r2 = r ∧ pl < q ∧ q ≤ n then z (B + 8 * r2 + (q - 1)) else z (B + 8 * r2 + q) := by
  unfold enz eqz
  rcases hB with rfl | rfl
  · rw [if_neg (by omega), if_neg (by omega), if_neg (by omega)]
    by_cases c : r2 = r ∧ pl < q ∧ q ≤ n
    · rw [if_pos (by omega), if_pos c]; congr 1; omega
    · rw [if_neg (by omega), if_neg (by omega), if_neg c]
  · rw [if_neg (by omega), if_neg (by omega), if_neg (by omega), if_neg (by omega)]
    by_cases c : r2 = r ∧ pl < q ∧ q ≤ n
    · rw [if_pos (by omega), if_pos c]; congr 1; omega
    · rw [if_neg (by omega), if_neg c]
theorem enz_lo {i : Nat} (hr : r < 12) (hn : n < 8) (hpl : pl ≤ n) (hi : i < 125 ∨ 329 ≤ i) : enz z r h md pl n i = z i := by
  unfold enz eqz
  rw [if_neg (by omega), if_neg (by omega), if_neg (by omega), if_neg (by omega), if_neg (by omega)]
end
theorem rq_en {c : Nat → Nat → Int32} {z : Nat → Int32} (H : RQ (c 1) (c 2) (c 3) z) {h r n pl : Nat} {md : Int32} (hh : h < 8) (hr : r < 12) (hn : z (125 + r) = nI n) (hn8 : n < 8) (hpl : pl ≤ n) (hm : MO md) (hw : c 1 h = -1) : RQ (enC c h r md pl 1) (enC c h r md pl 2) (enC c h r md pl 3) (enz z r h md pl n) := by
  have ne : ∀ h0 r0, r0 < 12 → c 1 h0 = nI r0 → ¬ h0 = h := by
    intro h0 r0 hr0 e k
    subst k
    rw [hw] at e
    exact nI_nm1 (by omega) e.symm
  refine ⟨fun r2 hr2 => ?_, fun h2 hh2 => ?_⟩
  · by_cases cr : r2 = r
    · subst cr
      obtain ⟨n2, hn2, en2, kn⟩ := H.1 r2 hr
      rw [hn] at en2
      obtain rfl := (nI_eq (by omega) (by omega)).mp en2
      refine ⟨n + 1, by omega, enz_n z, fun q hq => ?_⟩
      by_cases cq : q = pl
      · subst cq
        refine ⟨h, hh, enz_w z hr hn8 hpl, ?_, ?_, ?_, ?_⟩
        · rw [enC_1, if_pos rfl]
        · rw [enC_3 c h r2 md q hh, if_pos rfl]
        · rw [enC_2, if_pos rfl, enz_m z hr hn8 hpl]
        · rw [enC_2, if_pos rfl]; exact hm
      · rw [enz_q z (Or.inl rfl) hr hr hn8 hpl (by omega) (fun k => cq k.2), enz_q z (Or.inr rfl) hr hr hn8 hpl (by omega) (fun k => cq k.2)]
        by_cases cl : pl < q
        · rw [if_pos ⟨rfl, cl, by omega⟩, if_pos ⟨rfl, cl, by omega⟩]
          obtain ⟨h0, a1, a2, a3, a4, a5, a6⟩ := kn (q - 1) (by omega)
          have a7 := ne h0 r2 hr a3
          refine ⟨h0, a1, a2, ?_, ?_, ?_, ?_⟩
          · rw [enC_1, if_neg a7]; exact a3
          · rw [enC_3 c h r2 md pl a1, if_neg a7, if_pos ⟨a3, by rw [a4]; exact nI_nlt (by omega) (by omega)⟩, a4, nI_1]; congr 1; omega
          · rw [enC_2, if_neg a7]; exact a5
          · rw [enC_2, if_neg a7]; exact a6
        · rw [if_neg (fun k => cl k.2.1), if_neg (fun k => cl k.2.1)]
          obtain ⟨h0, a1, a2, a3, a4, a5, a6⟩ := kn q (by omega)
          have a7 := ne h0 r2 hr a3
          refine ⟨h0, a1, a2, ?_, ?_, ?_, ?_⟩
          · rw [enC_1, if_neg a7]; exact a3
          · rw [enC_3 c h r2 md pl a1, if_neg a7, if_neg (fun k => k.2 (by rw [a4]; exact nI_lt (by omega) (by omega)))]; exact a4
          · rw [enC_2, if_neg a7]; exact a5
          · rw [enC_2, if_neg a7]; exact a6
    · obtain ⟨n2, hn2, en2, kn⟩ := H.1 r2 hr2
      refine ⟨n2, hn2, by rw [enz_no z hr hr2 cr hn8 hpl]; exact en2, fun q hq => ?_⟩
      rw [enz_q z (Or.inl rfl) hr hr2 hn8 hpl (by omega) (fun k => cr k.1), enz_q z (Or.inr rfl) hr hr2 hn8 hpl (by omega) (fun k => cr k.1), if_neg (fun k => cr k.1), if_neg (fun k => cr k.1)]
      obtain ⟨h0, a1, a2, a3, a4, a5, a6⟩ := kn q hq
      have a7 := ne h0 r2 hr2 a3
      refine ⟨h0, a1, a2, ?_, ?_, ?_, ?_⟩
      · rw [enC_1, if_neg a7]; exact a3
      · rw [enC_3 c h r md pl a1, if_neg a7, if_neg (fun k => cr ?_)]; exact a4
        have k1 := k.1
        rw [a3] at k1
        exact (nI_eq (by omega) (by omega)).mp k1
      · rw [enC_2, if_neg a7]; exact a5
      · rw [enC_2, if_neg a7]; exact a6
  · by_cases ch : h2 = h
    · right
      subst ch
      refine ⟨r, n + 1, pl, hr, enz_n z, by omega, by omega, ?_, ?_, enz_w z hr hn8 hpl⟩
      · rw [enC_1, if_pos rfl]
      · rw [enC_3 c h2 r md pl hh, if_pos rfl]
    · rw [enC_1, enC_2, enC_3 c h r md pl hh2, if_neg ch, if_neg ch, if_neg ch]
      rcases H.2 h2 hh2 with q | ⟨r2, n2, p2, b1, b2, b3, b4, b5, b6, b7⟩
      · exact Or.inl q
      · right
        by_cases cr : r2 = r
        · subst cr
          rw [hn] at b2
          obtain rfl := (nI_eq (by omega) (by omega)).mp b2
          by_cases cp : p2 < pl
          · refine ⟨r2, n + 1, p2, hr, enz_n z, by omega, by omega, b5, ?_, ?_⟩
            · rw [if_neg (fun k => k.2 (by rw [b6]; exact nI_lt cp (by omega)))]; exact b6
            · rw [enz_q z (Or.inl rfl) hr hr hn8 hpl (by omega) (by omega), if_neg (by omega)]; exact b7
          · refine ⟨r2, n + 1, p2 + 1, hr, enz_n z, by omega, by omega, b5, ?_, ?_⟩
            · rw [if_pos ⟨b5, by rw [b6]; exact nI_nlt (by omega) (by omega)⟩, b6, nI_1]
            · rw [enz_q z (Or.inl rfl) hr hr hn8 hpl (by omega) (by omega), if_pos ⟨rfl, by omega, by omega⟩, show p2 + 1 - 1 = p2 by omega]; exact b7
        · refine ⟨r2, n2, p2, b1, by rw [enz_no z hr b1 cr hn8 hpl]; exact b2, b3, b4, b5, ?_, ?_⟩
          · rw [if_neg (fun k => cr ?_)]; exact b6
            have k1 := k.1
            rw [b5] at k1
            exact (nI_eq (by omega) (by omega)).mp k1
          · rw [enz_q z (Or.inl rfl) hr b1 hn8 hpl (by omega) (fun k => cr k.1), if_neg (fun k => cr k.1)]; exact b7
/-- the lock, on the row, of the hand at place p of its queue -/
def lkz (z : Nat → Int32) (r p : Nat) : Int32 := z (5 + 12 * (z (137 + 8 * r + p)).toNatClampNeg + r)
/-- requests of holders stand first -/
def HF (z : Nat → Int32) : Prop := ∀ r n p q, r < 12 → z (125 + r) = nI n → n ≤ 8 → p < q → q < n → ¬ lkz z r q ≤ 0 → ¬ lkz z r p ≤ 0
theorem lkz_h {z : Nat → Int32} {r p h : Nat} (hh : h < 8) (e : z (137 + 8 * r + p) = nI h) : lkz z r p = z (5 + 12 * h + r) := by
  unfold lkz
  rw [e, nI_clamp (by omega)]
theorem hf_same {z z2 : Nat → Int32} (H : HF z) (e1 : ∀ r, r < 12 → z2 (125 + r) = z (125 + r)) (e2 : ∀ r n p, r < 12 → z (125 + r) = nI n → n ≤ 8 → p < n → lkz z2 r p = lkz z r p) : HF z2 := by
  intro r n p q hr hn h8 hpq hq
  rw [e1 r hr] at hn
  rw [e2 r n q hr hn h8 hq, e2 r n p hr hn h8 (by omega)]
  exact H r n p q hr hn h8 hpq hq
/-- hand h leaves its queue; its own locks may change -/
theorem hf_dq {c : Nat → Nat → Int32} {z z2 : Nat → Int32} (H : HF z) (HQ : RQ (c 1) (c 2) (c 3) z) {h r n p : Nat} (hr : r < 12) (hn : z (125 + r) = nI n) (h8 : n ≤ 8) (hp : p < n) (e1 : c 1 h = nI r) (e2 : c 3 h = nI p) (hq2 : ∀ i, 125 ≤ i → i < 329 → z2 i = z i) (hl : ∀ h' r', h' < 8 → r' < 12 → ¬ h' = h → z2 (5 + 12 * h' + r') = z (5 + 12 * h' + r')) : HF (uqz z2 r p n (n - 1)) := by
  -- the lock at a place, behind and before
  have K : ∀ r2 n2 q, r2 < 12 → z (125 + r2) = nI n2 → n2 ≤ 8 → (q < n2 ∧ ¬ r2 = r ∨ q < n - 1 ∧ r2 = r) → lkz (uqz z2 r p n (n - 1)) r2 q = lkz z r2 (if r2 = r ∧ p ≤ q then q + 1 else q) := by
    intro r2 n2 q hr2 hn2 h28 hq
    have hle : n - 1 < n2 ∨ ¬ r2 = r := by
      by_cases k : r2 = r
      · subst k; rw [hn] at hn2; have := (nI_eq (by omega) (by omega)).mp hn2; omega
      · exact Or.inr k
    have hq3 : (if r2 = r ∧ p ≤ q then q + 1 else q) < n2 := by
      split <;> omega
    have hne : ¬ (r2 = r ∧ (if r2 = r ∧ p ≤ q then q + 1 else q) = p) := by
      split <;> omega
    obtain ⟨h0, a1, a2, a3, a4, a5, a6, a7⟩ := who_ne HQ hr (by omega) e1 e2 hr2 hn2 h28 hq3 hne
    rw [lkz_h a1 a2]
    have e3 : uqz z2 r p n (n - 1) (137 + 8 * r2 + q) = nI h0 := by
      rw [uqz_q z2 (Or.inl rfl) hr hr2 (by omega) (by omega)]
      by_cases k : r2 = r ∧ p ≤ q
      · rw [if_pos k] at a2
        rw [if_pos ⟨k.1, k.2, by omega⟩, hq2 _ (by omega) (by omega)]; exact a2
      · rw [if_neg k] at a2
        rw [if_neg (fun u => k ⟨u.1, u.2.1⟩), hq2 _ (by omega) (by omega)]; exact a2
    rw [lkz_h a1 e3, uqz_lo z2 hr (by omega) (by omega)]
    exact hl h0 r2 a1 hr2 a7
  intro r2 n2 a b hr2 hn2 h28 hab hb
  by_cases cr : r2 = r
  · subst cr
    rw [uqz_n] at hn2
    have hn3 := (nI_eq (by omega) (by omega)).mp hn2
    rw [K r2 n b hr hn h8 (by omega), K r2 n a hr hn h8 (by omega)]
    refine H r2 n _ _ hr hn h8 ?_ ?_ <;> (repeat' split) <;> omega
  · rw [uqz_no z2 hr hr2 cr (by omega), hq2 _ (by omega) (by omega)] at hn2
    rw [K r2 n2 b hr2 hn2 h28 (by omega), K r2 n2 a hr2 hn2 h28 (by omega), if_neg (fun k => cr k.1), if_neg (fun k => cr k.1)]
    exact H r2 n2 a b hr2 hn2 h28 hab hb
theorem hpz_s (z : Nat → Int32) (r : Nat) : ∀ d p, (∀ q, p ≤ q → q < hpz z r d p → ¬ lkz z r q ≤ 0) ∧ (hpz z r d p < p + d → lkz z r (hpz z r d p) ≤ 0) := by
  intro d
  induction d with
  | zero => intro p; unfold hpz; exact ⟨fun q h1 h2 => by omega, fun h => by omega⟩
  | succ d ih =>
    intro p
    unfold hpz
    by_cases c : z (5 + 12 * (z (137 + 8 * r + p)).toNatClampNeg + r) ≤ 0
    · rw [if_pos c]
      exact ⟨fun q h1 h2 => by omega, fun _ => c⟩
    · rw [if_neg c]
      refine ⟨fun q h1 h2 => ?_, fun h => (ih (p + 1)).2 (by omega)⟩
      by_cases k : q = p
      · subst k; exact c
      · exact (ih (p + 1)).1 q (by omega) h2
theorem hf_en {c : Nat → Nat → Int32} {z : Nat → Int32} (H : HF z) (HQ : RQ (c 1) (c 2) (c 3) z) {h r n : Nat} {md : Int32} (hh : h < 8) (hr : r < 12) (hn : z (125 + r) = nI n) (h8 : n < 8) (hw : c 1 h = -1) : HF (enz z r h md (plz z r h n) n) := by
  have hpl := plz_le z r h n
  have hs := hpz_s z r n 0
  have hle := hpz_le z r n 0
  have lo : ∀ i, i < 125 → enz z r h md (plz z r h n) n i = z i := fun i hi => enz_lo z hr h8 hpl (Or.inl hi)
  -- old hands
  have K : ∀ r2 n2 q, r2 < 12 → z (125 + r2) = nI n2 → n2 ≤ 8 → (q < n2 ∧ ¬ r2 = r ∨ q < n + 1 ∧ r2 = r ∧ ¬ q = plz z r h n) → lkz (enz z r h md (plz z r h n) n) r2 q = lkz z r2 (if r2 = r ∧ plz z r h n < q then q - 1 else q) := by
    intro r2 n2 q hr2 hn2 h28 hq
    have hnn : n2 = n ∨ ¬ r2 = r := by
      by_cases k : r2 = r
      · subst k; rw [hn] at hn2; have := (nI_eq (by omega) (by omega)).mp hn2; omega
      · exact Or.inr k
    have hq3 : (if r2 = r ∧ plz z r h n < q then q - 1 else q) < n2 := by split <;> omega
    obtain ⟨n3, hn3, en3, kn⟩ := HQ.1 r2 hr2
    rw [hn2] at en3
    obtain rfl := (nI_eq (by omega) (by omega)).mp en3
    obtain ⟨h0, a1, a2, _⟩ := kn _ hq3
    rw [lkz_h a1 a2]
    have e3 : enz z r h md (plz z r h n) n (137 + 8 * r2 + q) = nI h0 := by
      rw [enz_q z (Or.inl rfl) hr hr2 h8 hpl (by omega) (by omega)]
      by_cases k : r2 = r ∧ plz z r h n < q
      · rw [if_pos k] at a2
        rw [if_pos ⟨k.1, k.2, by omega⟩]; exact a2
      · rw [if_neg k] at a2
        rw [if_neg (fun u => k ⟨u.1, u.2.1⟩)]; exact a2
    rw [lkz_h a1 e3]
    exact lo _ (by omega)
  have L : lkz (enz z r h md (plz z r h n) n) r (plz z r h n) = z (5 + 12 * h + r) := by
    rw [lkz_h hh (enz_w z hr h8 hpl)]
    exact lo _ (by omega)
  intro r2 n2 a b hr2 hn2 h28 hab hb
  by_cases cr : r2 = r
  · subst cr
    rw [enz_n] at hn2
    have hn3 := (nI_eq (by omega) (by omega)).mp hn2
    subst hn3
    by_cases cl : z (5 + 12 * h + r2) ≤ 0
    · have ep : plz z r2 h n = n := by unfold plz; rw [if_pos cl]
      by_cases cb : b = n
      · subst cb
        intro u
        rw [ep] at L
        rw [ep, L] at u
        exact absurd cl u
      · rw [K r2 n b hr hn (by omega) (by omega), K r2 n a hr hn (by omega) (by omega), if_neg (by omega), if_neg (by omega)]
        exact H r2 n a b hr hn (by omega) hab (by omega)
    · have ep : plz z r2 h n = hpz z r2 n 0 := by unfold plz; rw [if_neg cl]
      by_cases ca : a < plz z r2 h n
      · intro _
        rw [K r2 n a hr hn (by omega) (by omega), if_neg (by omega)]
        exact hs.1 a (Nat.zero_le _) (by omega)
      · intro u
        exfalso
        rw [K r2 n b hr hn (by omega) (by omega), if_pos ⟨rfl, by omega⟩] at u
        have h0 : lkz z r2 (hpz z r2 n 0) ≤ 0 := hs.2 (by omega)
        by_cases ce : b - 1 = hpz z r2 n 0
        · rw [ce] at u; exact u h0
        · exact H r2 n (hpz z r2 n 0) (b - 1) hr hn (by omega) (by omega) (by omega) u h0
  · rw [enz_no z hr hr2 cr h8 hpl] at hn2
    rw [K r2 n2 b hr2 hn2 h28 (by omega), K r2 n2 a hr2 hn2 h28 (by omega), if_neg (fun k => cr k.1), if_neg (fun k => cr k.1)]
    exact H r2 n2 a b hr2 hn2 h28 hab hb

