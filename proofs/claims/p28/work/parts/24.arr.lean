/-! arrays read and written at known places -/
theorem ix_lit (n : Nat) : (OfNat.ofNat n : Int32) = nI n := rfl
theorem an_ald {M : MI} {pc : Nat} {L : List (Option PV)} {r : List PV} {m m2 : PM} {t k g : Nat} {j : Int32} {v : OC} (E N : Nat) (h : asc (mT M) pc = some (.iaload, 1)) (hN : ilen m t k = some N) (hj : j = nI E) (hE : E < N) (hb : N < 2 ^ 31) (kk : An M (pc + 1) L (vI (m.1 t k g E) :: r) m v m2) : An M pc L (vI j :: vR t k g :: r) m v m2 := by
  subst hj
  refine one_iald N h hN (nI_in hE hb) ?_
  rw [nI_clamp (by omega)]
  exact kk
theorem an_ast {M : MI} {pc : Nat} {L : List (Option PV)} {r : List PV} {m m2 : PM} {t k g : Nat} {j x : Int32} {v : OC} (E N : Nat) (h : asc (mT M) pc = some (.iastore, 1)) (hN : ilen m t k = some N) (ht : ¬ t = 10) (hj : j = nI E) (hE : E < N) (hb : N < 2 ^ 31) (kk : An M (pc + 1) L r (wI m t k g E x) v m2) : An M pc L (vI x :: vI j :: vR t k g :: r) m v m2 := by
  subst hj
  refine one_iast N h hN ht (nI_in hE hb) ?_
  rw [nI_clamp (by omega)]
  exact kk
/-- the model's queues are not longer than they may be -/
def QL (m : PM) : Prop := ∀ r, r < 12 → (m.1 8 0 0 (125 + r)).toNatClampNeg ≤ 8
/-- a boolean answer that is 0 or 1 -/
theorem an_retz {M : MI} {pc : Nat} {L : List (Option PV)} {m : PM} {x : Int32} (hz : x = 0 ∨ x = 1) (h : asc (mT M) pc = some (.ireturn, 1)) (hr : mRet M = some .boolean) : An M pc L [vI x] m (.inl (some (vI x))) m := by
  refine an_ret h rfl rfl rfl ?_
  unfold sm_out
  have e : sm_ret M pc [vI x] = some (some (vI x)) := by
    unfold sm_ret
    rw [h]
    dsimp only
    rw [hr, if_neg (by decide), if_pos rfl]
    rcases hz with rfl | rfl
    · rw [if_pos rfl]; rfl
    · rw [if_neg (by decide), if_pos rfl]; rfl
  rw [e]
