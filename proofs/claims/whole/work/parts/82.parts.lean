/-! where the requests of the text stand -/
def dgB (c : Int32) : Prop := ¬ v_X3_isDigit pm0 c = 0
def dgN (tx : Nat → Int32) : Nat → Nat → Nat
  | 0, _ => 0
  | n + 1, i => if v_X3_isDigit pm0 (tx i) = 0 then 0 else dgN tx n (i + 1) + 1
theorem dgN_of (tx : Nat → Int32) : ∀ d n i, d < n → (∀ j, j < d → dgB (tx (i + j))) → ¬ dgB (tx (i + d)) → dgN tx n i = d := by
  intro d
  induction d with
  | zero =>
    intro n i hn _ h2
    obtain ⟨n', rfl⟩ : ∃ n', n = n' + 1 := ⟨n - 1, by omega⟩
    unfold dgN
    rw [if_pos (show v_X3_isDigit pm0 (tx i) = 0 from Classical.byContradiction fun u => h2 u)]
  | succ d ih =>
    intro n i hn h1 h2
    obtain ⟨n', rfl⟩ : ∃ n', n = n' + 1 := ⟨n - 1, by omega⟩
    unfold dgN
    rw [if_neg (show ¬ v_X3_isDigit pm0 (tx i) = 0 from h1 0 (by omega)), ih n' (i + 1) (by omega) (fun j hj => by rw [show i + 1 + j = i + (j + 1) by omega]; exact h1 (j + 1) (by omega)) (by rw [show i + 1 + d = i + (d + 1) by omega]; exact h2)]
/-- the end of the request that begins at s; the begin of request p -/
def EN (tx : Nat → Int32) (len s : Nat) : Nat := s + 1 + dgN tx (len - (s + 1)) (s + 1)
def St (tx : Nat → Int32) (len : Nat) : Nat → Nat
  | 0 => 0
  | p + 1 => EN tx len (St tx len p) + 2
theorem EN_of {tx : Nat → Int32} {len s e : Nat} (h1 : s < e) (h2 : e < len) (h3 : ∀ i, s < i → i < e → dgB (tx i)) (h4 : ¬ dgB (tx e)) : EN tx len s = e := by
  unfold EN
  rw [dgN_of tx (e - (s + 1)) _ _ (by omega) (fun j hj => h3 _ (by omega) (by omega)) (by rw [show s + 1 + (e - (s + 1)) = e by omega]; exact h4)]
  omega
/-- the number of d digits behind s -/
def nmN (tx : Nat → Int32) (s : Nat) : Nat → Int32
  | 0 => 0
  | d + 1 => nmN tx s d * 10 + tx (s + 1 + d) - 48
/-- request p is read -/
def PT (tx : Nat → Int32) (len : Nat) (f : Nat → Int32) (p : Nat) : Prop := EN tx len (St tx len p) < len ∧ f (3 * p) = tx (St tx len p) - 97 ∧ f (3 * p + 1) = nmN tx (St tx len p) (EN tx len (St tx len p) - (St tx len p + 1)) ∧ f (3 * p + 2) = mdf (tx (EN tx len (St tx len p))) ∧ ¬ mdf (tx (EN tx len (St tx len p))) = -1
theorem pt_cong {tx : Nat → Int32} {len : Nat} {f f2 : Nat → Int32} {p : Nat} (H : PT tx len f p) (e : ∀ i, i < 3 * p + 3 → f2 i = f i) : PT tx len f2 p := by
  unfold PT
  rw [e _ (by omega), e _ (by omega), e _ (by omega)]
  exact H
/-- as far as place k -/
def RI (tx : Nat → Int32) (len k : Nat) (f : Nat → Int32) (q : Nat) (n d : Int32) : Prop := (∀ p, p < q → PT tx len f p) ∧ ((d = 0 ∧ k = St tx len q) ∨ (d = 1 ∧ f (3 * q) = tx (St tx len q) - 97 ∧ ((n = -1 ∧ k = St tx len q + 1) ∨ (¬ n = -1 ∧ St tx len q + 1 < k ∧ (∀ i, St tx len q < i → i < k → dgB (tx i)) ∧ n = nmN tx (St tx len q) (k - (St tx len q + 1))))) ∨ (d = 2 ∧ PT tx len f q ∧ k = EN tx len (St tx len q) + 1))
theorem dg_in : ∀ k, k < 127 → ¬ inn (nI k - 48) 0 9 = 0 → ¬ v_X3_isDigit pm0 (nI k) = 0 := by decide +kernel
theorem md_nd : ∀ k, k < 127 → ¬ mdf (nI k) = -1 → v_X3_isDigit pm0 (nI k) = 0 := by decide +kernel
theorem md_eq : ∀ k, k < 127 → ¬ mdf (nI k) = -1 → v_X4_modeOf pm0 (nI k) = mdf (nI k) := by decide +kernel
theorem dgv_dg {n : Int32} {k : Nat} (hk : k < 127) (h : ¬ dgv n (nI k - 48) = 0) : dgB (nI k) := by
  refine dg_in k hk (fun e => h ?_)
  unfold dgv
  rw [if_pos e]
theorem upd_in (f : Nat → Int32) (i : Nat) (x : Int32) {j : Nat} (h : ¬ j = i) : upd f i x j = f j := upd_o f i x h
theorem ri_step {tx : Nat → Int32} {len k : Nat} {f : Nat → Int32} {q : Nat} {n d : Int32} (hk : k < len) (hx : ∃ a, a < 127 ∧ tx k = nI a) (H : RI tx len k f q n d) (hv : ¬ tkv n d (tx k) = 0) : RI tx len (k + 1) (tkf f q n d (tx k)) (tkQ q d) (tkn n d (tx k)) (tkd n d (tx k)) := by
  obtain ⟨a, ha, ea⟩ := hx
  obtain ⟨P, H⟩ := H
  rcases H with ⟨rfl, hk0⟩ | ⟨rfl, hf, H⟩ | ⟨rfl, hp, hk0⟩
  · -- a hand
    have e1 : tkf f q n 0 (tx k) = upd f (3 * q) (tx k - 97) := by unfold tkf; rw [if_neg (fun u => u rfl)]
    have e2 : tkQ q 0 = q := by unfold tkQ; rw [if_neg (fun u => u rfl)]
    have e3 : tkn n 0 (tx k) = -1 := by unfold tkn; rw [if_neg (fun u => u rfl)]
    have e4 : tkd n 0 (tx k) = 1 := by unfold tkd; rw [if_neg (fun u => u rfl)]
    rw [e1, e2, e3, e4]
    refine ⟨fun p hp => pt_cong (P p hp) (fun i hi => upd_o _ _ _ (by omega)), Or.inr (Or.inl ⟨rfl, ?_, Or.inl ⟨rfl, by omega⟩⟩)⟩
    rw [upd_s, hk0]
  · have d1 : ¬ (1 : Int32) = 0 := by decide
    have d2 : ¬ ¬ (1 : Int32) = 1 := fun u => u rfl
    have eQ : tkQ q 1 = q := by unfold tkQ; rw [if_pos d1, if_neg d2]
    -- a digit
    have digit : (n = -1 ∨ mdf (tx k) = -1) → ¬ dgv n (tx k - 48) = 0 ∧ tkf f q n 1 (tx k) = f ∧ tkn n 1 (tx k) = dgn n (tx k - 48) ∧ tkd n 1 (tx k) = 1 := by
      intro h
      unfold tkv at hv
      unfold tkf tkn tkd
      rw [if_pos d1, if_neg d2] at hv
      rw [if_pos d1, if_neg d2, if_pos d1, if_neg d2, if_pos d1, if_neg d2]
      by_cases c : n = -1
      · rw [if_pos c] at hv
        rw [if_pos c, if_pos c, if_pos c, if_neg hv]
        exact ⟨hv, rfl, rfl, rfl⟩
      · have c2 : mdf (tx k) = -1 := by
          rcases h with h | h
          · exact absurd h c
          · exact h
        rw [if_neg c, if_pos c2] at hv
        rw [if_neg c, if_neg c, if_neg c, if_pos c2, if_pos c2, if_pos c2, if_neg hv]
        exact ⟨hv, rfl, rfl, rfl⟩
    rw [eQ]
    rcases H with ⟨hn, hk0⟩ | ⟨hn, hlt, hd, hnm⟩
    · obtain ⟨g1, g2, g3, g4⟩ := digit (Or.inl hn)
      have gd : dgB (tx k) := by rw [ea] at g1 ⊢; exact dgv_dg ha g1
      rw [g2, g3, g4]
      refine ⟨P, Or.inr (Or.inl ⟨rfl, hf, Or.inr ⟨dgn_ok g1, by omega, fun i h1 h2 => ?_, ?_⟩⟩)⟩
      · obtain rfl : i = k := by omega
        exact gd
      · rw [show k + 1 - (St tx len q + 1) = 0 + 1 by omega]
        show dgn n (tx k - 48) = 0 * 10 + tx (St tx len q + 1 + 0) - 48
        unfold dgn
        rw [if_neg (fun u => u hn), show St tx len q + 1 + 0 = k by omega, Int32.zero_mul, Int32.zero_add]
    · by_cases cm : mdf (tx k) = -1
      · obtain ⟨g1, g2, g3, g4⟩ := digit (Or.inr cm)
        have gd : dgB (tx k) := by rw [ea] at g1 ⊢; exact dgv_dg ha g1
        rw [g2, g3, g4]
        refine ⟨P, Or.inr (Or.inl ⟨rfl, hf, Or.inr ⟨dgn_ok g1, by omega, fun i h1 h2 => ?_, ?_⟩⟩)⟩
        · by_cases c : i = k
          · subst c; exact gd
          · exact hd i h1 (by omega)
        · rw [show k + 1 - (St tx len q + 1) = (k - (St tx len q + 1)) + 1 by omega]
          show dgn n (tx k - 48) = nmN tx (St tx len q) (k - (St tx len q + 1)) * 10 + tx (St tx len q + 1 + (k - (St tx len q + 1))) - 48
          unfold dgn
          rw [if_pos hn, ← hnm, show St tx len q + 1 + (k - (St tx len q + 1)) = k by omega, Int32.mul_comm]
          grind
      · have nd : ¬ dgB (tx k) := by
          rw [ea] at cm ⊢
          exact fun u => u (md_nd a ha cm)
        have eE : EN tx len (St tx len q) = k := EN_of (by omega) hk hd nd
        have g1 : tkf f q n 1 (tx k) = upd (upd f (3 * q + 1) n) (3 * q + 2) (mdf (tx k)) := by
          unfold tkf
          rw [if_pos d1, if_neg d2, if_neg hn, if_neg cm]
        have g2 : tkd n 1 (tx k) = 2 := by
          unfold tkd
          rw [if_pos d1, if_neg d2, if_neg hn, if_neg cm]
        rw [g1, g2]
        refine ⟨fun p hp => pt_cong (P p hp) (fun i hi => by rw [upd_o _ _ _ (by omega), upd_o _ _ _ (by omega)]), Or.inr (Or.inr ⟨rfl, ⟨by rw [eE]; exact hk, ?_, ?_, ?_, by rw [eE]; exact cm⟩, by rw [eE]⟩)⟩
        · rw [upd_o _ _ _ (by omega), upd_o _ _ _ (by omega)]; exact hf
        · rw [upd_o _ _ _ (by omega), upd_s, eE]; exact hnm
        · rw [upd_s, eE]
  · have d1 : ¬ (2 : Int32) = 0 := by decide
    have d2 : ¬ (2 : Int32) = 1 := by decide
    have e1 : tkf f q n 2 (tx k) = f := by unfold tkf; rw [if_pos d1, if_pos d2]
    have e2 : tkQ q 2 = q + 1 := by unfold tkQ; rw [if_pos d1, if_pos d2]
    have e4 : tkd n 2 (tx k) = 0 := by unfold tkd; rw [if_pos d1, if_pos d2]
    rw [e1, e2, e4]
    refine ⟨fun p h => ?_, Or.inl ⟨rfl, ?_⟩⟩
    · by_cases c : p = q
      · subst c; exact hp
      · exact P p (by omega)
    · show k + 1 = EN tx len (St tx len q) + 2
      omega
theorem ri_run {tx : Nat → Int32} {len : Nat} (hx : ∀ k, k < len → ∃ a, a < 127 ∧ tx k = nI a) : ∀ e k f q n d, k + e = len → RI tx len k f q n d → (rgt tx e k f q n d).1 = k + e → RI tx len (k + e) (rgt tx e k f q n d).2.1 (rgt tx e k f q n d).2.2.1 (rgt tx e k f q n d).2.2.2.1 (rgt tx e k f q n d).2.2.2.2 := by
  intro e
  induction e with
  | zero => intro k f q n d _ H _; exact H
  | succ e ih =>
    intro k f q n d hk H h
    unfold rgt at h ⊢
    by_cases c : tkv n d (tx k) = 0
    · rw [if_pos c] at h
      have h : k = k + (e + 1) := h
      omega
    · rw [if_neg c] at h ⊢
      have := ih (k + 1) _ _ _ _ (by omega) (ri_step (by omega) (hx k (by omega)) H c) (by rw [h]; omega)
      rw [show k + (e + 1) = k + 1 + e by omega]
      exact this
