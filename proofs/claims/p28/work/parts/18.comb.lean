/-! walks put together -/
def AnS (M : MI) (s : PS) (v : OC) (m2 : PM) : Prop := match s with
  | (pc, L, st, m) => An M pc L st m v m2
def Re (M : MI) (s s2 : PS) : Prop := ∀ (v : OC) (m2 : PM), AnS M s2 v m2 → AnS M s v m2
section COMB
variable {M : MI} {t f pc : Nat} {L : List (Option PV)} {st : List PV} {m m1 m2 : PM} {v : OC}
theorem re_if0 {c : Prop} [Decidable c] {s : PS} (ht : c → Re M (t, L, st, m) s) (hf : ¬ c → Re M (f, L, st, m) s) : Re M (if c then t else f, L, st, m) s := by
  by_cases h : c
  · rw [if_pos h]; exact ht h
  · rw [if_neg h]; exact hf h
theorem re_if1 {c : Prop} [Decidable c] {α : Type} (G : α → PS) {a b : α} (ht : c → Re M (t, L, st, m) (G a)) (hf : ¬ c → Re M (f, L, st, m) (G b)) : Re M (if c then t else f, L, st, m) (G (if c then a else b)) := by
  by_cases h : c
  · rw [if_pos h, if_pos h]; exact ht h
  · rw [if_neg h, if_neg h]; exact hf h
theorem re_if2 {c : Prop} [Decidable c] {α β : Type} (G : α → β → PS) {a b : α} {x y : β} (ht : c → Re M (t, L, st, m) (G a x)) (hf : ¬ c → Re M (f, L, st, m) (G b y)) : Re M (if c then t else f, L, st, m) (G (if c then a else b) (if c then x else y)) := by
  by_cases h : c
  · rw [if_pos h, if_pos h, if_pos h]; exact ht h
  · rw [if_neg h, if_neg h, if_neg h]; exact hf h
theorem re_if3 {c : Prop} [Decidable c] {α β γ : Type} (G : α → β → γ → PS) {a b : α} {x y : β} {u w : γ} (ht : c → Re M (t, L, st, m) (G a x u)) (hf : ¬ c → Re M (f, L, st, m) (G b y w)) : Re M (if c then t else f, L, st, m) (G (if c then a else b) (if c then x else y) (if c then u else w)) := by
  by_cases h : c
  · rw [if_pos h, if_pos h, if_pos h, if_pos h]; exact ht h
  · rw [if_neg h, if_neg h, if_neg h, if_neg h]; exact hf h
theorem an_t {c : Prop} [Decidable c] (h : c) (k : An M t L st m v m2) : An M (if c then t else f) L st m v m2 := by rw [if_pos h]; exact k
theorem an_f {c : Prop} [Decidable c] (h : ¬ c) (k : An M f L st m v m2) : An M (if c then t else f) L st m v m2 := by rw [if_neg h]; exact k
theorem an_ifi {c : Prop} [Decidable c] {a b : Int32} (ht : c → An M t L st m (.inl (some (vI a))) m2) (hf : ¬ c → An M f L st m (.inl (some (vI b))) m2) : An M (if c then t else f) L st m (.inl (some (vI (if c then a else b)))) m2 := by
  by_cases h : c
  · rw [if_pos h, if_pos h]; exact ht h
  · rw [if_neg h, if_neg h]; exact hf h
theorem an_ifl {c : Prop} [Decidable c] {a b : Int64} (ht : c → An M t L st m (.inl (some (vL a))) m2) (hf : ¬ c → An M f L st m (.inl (some (vL b))) m2) : An M (if c then t else f) L st m (.inl (some (vL (if c then a else b)))) m2 := by
  by_cases h : c
  · rw [if_pos h, if_pos h]; exact ht h
  · rw [if_neg h, if_neg h]; exact hf h
theorem an_ifd {c : Prop} [Decidable c] {a b : UInt64} (ht : c → An M t L st m (.inl (some (vD a))) m2) (hf : ¬ c → An M f L st m (.inl (some (vD b))) m2) : An M (if c then t else f) L st m (.inl (some (vD (if c then a else b)))) m2 := by
  by_cases h : c
  · rw [if_pos h, if_pos h]; exact ht h
  · rw [if_neg h, if_neg h]; exact hf h
theorem an_ifim {c : Prop} [Decidable c] {a b : Int32} (ht : c → An M t L st m (.inl (some (vI a))) m1) (hf : ¬ c → An M f L st m (.inl (some (vI b))) m2) : An M (if c then t else f) L st m (.inl (some (vI (if c then a else b)))) (if c then m1 else m2) := by
  by_cases h : c
  · rw [if_pos h, if_pos h, if_pos h]; exact ht h
  · rw [if_neg h, if_neg h, if_neg h]; exact hf h
theorem an_ifm {c : Prop} [Decidable c] (ht : c → An M t L st m v m1) (hf : ¬ c → An M f L st m v m2) : An M (if c then t else f) L st m v (if c then m1 else m2) := by
  by_cases h : c
  · rw [if_pos h, if_pos h]; exact ht h
  · rw [if_neg h, if_neg h]; exact hf h
theorem an_ifo {c : Prop} [Decidable c] {a b : OC} (ht : c → An M t L st m a m1) (hf : ¬ c → An M f L st m b m2) : An M (if c then t else f) L st m (if c then a else b) (if c then m1 else m2) := by
  by_cases h : c
  · rw [if_pos h, if_pos h, if_pos h]; exact ht h
  · rw [if_neg h, if_neg h, if_neg h]; exact hf h
theorem an_ifp {c : Prop} [Decidable c] {a b : OC} (ht : c → An M t L st m a m2) (hf : ¬ c → An M f L st m b m2) : An M (if c then t else f) L st m (if c then a else b) m2 := by
  by_cases h : c
  · rw [if_pos h, if_pos h]; exact ht h
  · rw [if_neg h, if_neg h]; exact hf h
theorem an_cL {K : List (Option PV)} (h : L = K) (k : An M pc K st m v m2) : An M pc L st m v m2 := by rw [h]; exact k
end COMB
/-- n rounds from the j-th on -/
def lp {σ : Type} (f : Nat → σ → σ) (n j : Nat) (s : σ) : σ := if n = 0 then s else lp f (n - 1) (j + 1) (f j s)
termination_by n
decreasing_by omega
theorem lp_0 {σ : Type} (f : Nat → σ → σ) (j : Nat) (s : σ) : lp f 0 j s = s := by rw [lp, if_pos rfl]
theorem lp_s {σ : Type} (f : Nat → σ → σ) (n j : Nat) (s : σ) : lp f (n + 1) j s = lp f n (j + 1) (f j s) := by rw [lp, if_neg (by omega)]; rfl
def lq {σ ρ : Type} (f : Nat → σ → σ ⊕ ρ) (n j : Nat) (s : σ) : σ ⊕ ρ := if n = 0 then .inl s else match f j s with
  | .inl s2 => lq f (n - 1) (j + 1) s2
  | .inr r => .inr r
termination_by n
decreasing_by omega
theorem lq_0 {σ ρ : Type} (f : Nat → σ → σ ⊕ ρ) (j : Nat) (s : σ) : lq f 0 j s = .inl s := by rw [lq, if_pos rfl]
theorem lq_l {σ ρ : Type} {f : Nat → σ → σ ⊕ ρ} {n j : Nat} {s s2 : σ} (h : f j s = .inl s2) : lq f (n + 1) j s = lq f n (j + 1) s2 := by rw [lq, if_neg (by omega), h]; rfl
theorem lq_r {σ ρ : Type} {f : Nat → σ → σ ⊕ ρ} {n j : Nat} {s : σ} {r : ρ} (h : f j s = .inr r) : lq f (n + 1) j s = .inr r := by rw [lq, if_neg (by omega), h]
theorem re_lp {σ : Type} {M : MI} (f : Nat → σ → σ) (P : Nat → σ → PS) (N : Nat) (E : σ → PS) (step : ∀ j s, j < N → Re M (P j s) (P (j + 1) (f j s))) (exit : ∀ s, Re M (P N s) (E s)) : ∀ n j s, n + j = N → Re M (P j s) (E (lp f n j s)) := by
  intro n
  induction n with
  | zero =>
    intro j s h
    obtain rfl : j = N := by omega
    rw [lp_0]; exact exit s
  | succ n ih =>
    intro j s h v m2 k
    rw [lp_s] at k
    exact step j s (by omega) v m2 (ih (j + 1) (f j s) (by omega) v m2 k)
theorem re_lq {σ ρ : Type} {M : MI} (f : Nat → σ → σ ⊕ ρ) (P : Nat → σ → PS) (N : Nat) (E : σ ⊕ ρ → PS) (step : ∀ j s, j < N → ∀ (v : OC) (m2 : PM), (∀ s2, f j s = .inl s2 → AnS M (P (j + 1) s2) v m2) → (∀ r, f j s = .inr r → AnS M (E (.inr r)) v m2) → AnS M (P j s) v m2) (exit : ∀ s, Re M (P N s) (E (.inl s))) : ∀ n j s, n + j = N → Re M (P j s) (E (lq f n j s)) := by
  intro n
  induction n with
  | zero =>
    intro j s h
    obtain rfl : j = N := by omega
    rw [lq_0]; exact exit s
  | succ n ih =>
    intro j s h v m2 k
    refine step j s (by omega) v m2 (fun s2 e => ?_) (fun r e => ?_)
    · rw [lq_l e] at k; exact ih (j + 1) s2 (by omega) v m2 k
    · rw [lq_r e] at k; exact k
/-- a round that may answer: V, W of the whole -/
theorem an_lq {σ ρ : Type} {M : MI} (f : Nat → σ → σ ⊕ ρ) (P : Nat → σ → PS) (N : Nat) (V : σ ⊕ ρ → OC) (X : σ ⊕ ρ → PM) (step : ∀ j s, j < N → ∀ (v : OC) (m2 : PM), (∀ s2, f j s = .inl s2 → AnS M (P (j + 1) s2) v m2) → (∀ r, f j s = .inr r → v = V (.inr r) ∧ m2 = X (.inr r)) → AnS M (P j s) v m2) (exit : ∀ s, AnS M (P N s) (V (.inl s)) (X (.inl s))) : ∀ n j s, n + j = N → AnS M (P j s) (V (lq f n j s)) (X (lq f n j s)) := by
  intro n
  induction n with
  | zero =>
    intro j s h
    obtain rfl : j = N := by omega
    rw [lq_0]; exact exit s
  | succ n ih =>
    intro j s h
    refine step j s (by omega) _ _ (fun s2 e => ?_) (fun r e => ?_)
    · rw [lq_l e]; exact ih (j + 1) s2 (by omega)
    · rw [lq_r e]; exact ⟨rfl, rfl⟩
theorem bnd_lt {B : Int32} {j : Nat} (h : j < B.toNatClampNeg) : ¬ B ≤ nI j := by
  have h1 : B.toNatClampNeg = B.toInt.toNat := rfl
  have h2 : B.toInt < 2 ^ 31 := Int32.toInt_lt B
  have hj : j < 2 ^ 31 := by omega
  rw [Int32.le_iff_toInt_le, nI_toInt hj]
  omega
theorem bnd_ge {B : Int32} {j : Nat} (h : j = B.toNatClampNeg) : B ≤ nI j := by
  have h1 : B.toNatClampNeg = B.toInt.toNat := rfl
  have h2 : B.toInt < 2 ^ 31 := Int32.toInt_lt B
  have hj : j < 2 ^ 31 := by omega
  rw [Int32.le_iff_toInt_le, nI_toInt hj]
  omega
def lqv {σ : Type} (x : σ ⊕ σ) : σ := match x with
  | .inl s => s
  | .inr s => s
def lqr {σ ρ : Type} (g : σ → ρ) (x : σ ⊕ ρ) : ρ := match x with
  | .inl s => g s
  | .inr r => r
/-- a switch's target -/
def swt (x : Int32) (td : Nat) : List Nat → Nat → Nat
  | [], _ => td
  | t :: r, j => if x = nI j then t else swt x td r (j + 1)
theorem swt_out {x : Int32} {td : Nat} : ∀ {ts : List Nat} {j : Nat}, (∀ i, i < ts.length → ¬ x = nI (j + i)) → swt x td ts j = td
  | [], _, _ => rfl
  | t :: r, j, h => by
    show (if x = nI j then t else swt x td r (j + 1)) = td
    rw [if_neg (show ¬ x = nI j from h 0 (by simp))]
    exact swt_out (fun i hi => by rw [Nat.add_assoc, Nat.add_comm 1 i]; exact h (i + 1) (by simp; omega))
theorem swt_in {x : Int32} {td t : Nat} : ∀ {ts : List Nat} {j i : Nat}, ts[i]? = some t → x = nI (j + i) → j + ts.length < 2 ^ 31 → swt x td ts j = t
  | [], _, i, h, _, _ => by simp at h
  | a :: r, j, 0, h, hx, _ => by
    show (if x = nI j then a else swt x td r (j + 1)) = t
    rw [if_pos (show x = nI j from hx)]
    cases h; rfl
  | a :: r, j, i + 1, h, hx, hb => by
    have hl : i < r.length := (List.getElem?_eq_some_iff.mp (show r[i]? = some t from h)).1
    have hb2 : j + (r.length + 1) < 2 ^ 31 := hb
    show (if x = nI j then a else swt x td r (j + 1)) = t
    rw [if_neg (by rw [hx, nI_eq (by omega) (by omega)]; omega)]
    exact swt_in (i := i) h (by rw [hx]; congr 1; omega) (by omega)
theorem an_tsw {M : MI} {pc : Nat} {L : List (Option PV)} {st : List PV} {m m2 : PM} {v : OC} {x : Int32} {d hi : Int} {os : Array Int} {len : Nat} (ts : List Nat) (td : Nat) (h : asc (mT M) pc = some (.tableswitch d 0 hi os, len)) (hd : bt pc d = some td) (ho : os.toList.map (bt pc) = ts.map some) (hh : hi + 1 = (ts.length : Int) ∧ ts.length < 2 ^ 31) (k : An M (swt x td ts 0) L st m v m2) : An M pc L (vI x :: st) m v m2 := by
  refine an_b 1 (pc2 := swt x td ts 0) (L2 := L) (st2 := st) (m1 := m) ?_ k
  have e : sm_one M pc L (vI x :: st) m = some (swt x td ts 0, L, st, m) := by
    unfold sm_one
    rw [h]
    show sm_ins _ _ _ _ _ _ _ = _
    have e2 : sm_d (.tableswitch d 0 hi os) len pc L (vI x :: st) m = some (swt x td ts 0, L, st, m) := by
      unfold sm_d
      dsimp only
      by_cases hc : x.toInt < 0 ∨ hi < x.toInt
      · rw [if_pos hc, hd]
        dsimp only
        rw [swt_out]
        intro i hil q
        rw [q, Nat.zero_add, nI_toInt (by omega)] at hc
        omega
      · rw [if_neg hc]
        have hlt : (x.toInt - 0).toNat < ts.length := by omega
        have hsz : os.size = ts.length := by
          have := congrArg List.length ho
          rw [List.length_map, List.length_map, Array.length_toList] at this
          exact this
        have h1 : (os.toList.map (bt pc))[(x.toInt - 0).toNat]? = (ts.map some)[(x.toInt - 0).toNat]? := by rw [ho]
        rw [List.getElem?_map, List.getElem?_map] at h1
        obtain ⟨t, ht⟩ : ∃ t, ts[(x.toInt - 0).toNat]? = some t := ⟨_, List.getElem?_eq_getElem hlt⟩
        rw [ht] at h1
        obtain ⟨o, hoo⟩ : ∃ o, os.toList[(x.toInt - 0).toNat]? = some o := ⟨_, List.getElem?_eq_getElem (by rw [Array.length_toList]; omega)⟩
        rw [hoo] at h1
        have h2 : bt pc o = some t := Option.some.inj h1
        have h3 : os[(x.toInt - 0).toNat]? = some o := by rw [← Array.getElem?_toList]; exact hoo
        rw [h3]
        dsimp only
        rw [h2]
        dsimp only
        rw [swt_in (i := (x.toInt - 0).toNat) (j := 0) ht]
        · apply Int32.toInt_inj.mp
          rw [nI_toInt (by omega)]
          omega
        · omega
    unfold sm_ins
    have n1 : sm_a (.tableswitch d 0 hi os) len pc L (vI x :: st) m = none := by simp [sm_a]
    have n2 : sm_b (.tableswitch d 0 hi os) len pc L (vI x :: st) m = none := by simp [sm_b]
    have n3 : sm_c (.tableswitch d 0 hi os) len pc L (vI x :: st) m = none := by simp [sm_c]
    rw [n1, n2, n3, e2]
  show (match sm_one M pc L (vI x :: st) m with | some s2 => sm_many 0 M s2 | none => none) = _
  rw [e]
  rfl
