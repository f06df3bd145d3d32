/-! the text read: takes, rightUpTo -/
/-- parts, how many are behind, the number, what is due -/
def setp (m : PM) (f : Nat → Int32) (q : Nat) (n d : Int32) : PM := (fun t k g i => if t = 8 ∧ k = 3 ∧ g = 0 then f i else if t = 7 ∧ k = 0 ∧ g = 0 ∧ i = 7 then nI q else if t = 7 ∧ k = 0 ∧ g = 0 ∧ i = 8 then n else if t = 7 ∧ k = 0 ∧ g = 0 ∧ i = 9 then d else m.1 t k g i, m.2)
section
variable (m : PM) (f : Nat → Int32) (q : Nat) (n d : Int32)
theorem setp_f (i : Nat) : (setp m f q n d).1 8 3 0 i = f i := by
  unfold setp; dsimp only; rw [if_pos ⟨rfl, rfl, rfl⟩]
theorem setp_q : (setp m f q n d).1 7 0 0 7 = nI q := by
  unfold setp; dsimp only; rw [if_neg (by decide), if_pos ⟨rfl, rfl, rfl, rfl⟩]
theorem setp_n : (setp m f q n d).1 7 0 0 8 = n := by
  unfold setp; dsimp only; rw [if_neg (by decide), if_neg (by decide), if_pos ⟨rfl, rfl, rfl, rfl⟩]
theorem setp_d : (setp m f q n d).1 7 0 0 9 = d := by
  unfold setp; dsimp only; rw [if_neg (by decide), if_neg (by decide), if_neg (by decide), if_pos ⟨rfl, rfl, rfl, rfl⟩]
theorem setp_o (t k g i : Nat) (h1 : ¬ (t = 8 ∧ k = 3)) (h2 : ¬ (t = 7 ∧ 7 ≤ i ∧ i ≤ 9)) : (setp m f q n d).1 t k g i = m.1 t k g i := by
  unfold setp; dsimp only
  rw [if_neg (by omega), if_neg (by omega), if_neg (by omega), if_neg (by omega)]
theorem setp_wf (i : Nat) (x : Int32) : wI (setp m f q n d) 8 3 0 i x = setp m (upd f i x) q n d := by
  unfold wI setp upd
  congr 1
  funext t k g j
  dsimp only
  (repeat' split) <;> first | rfl | (exfalso; omega)
theorem setp_wq (q2 : Nat) : wI (setp m f q n d) 7 0 0 7 (nI q2) = setp m f q2 n d := by
  unfold wI setp
  congr 1
  funext t k g j
  dsimp only
  (repeat' split) <;> first | rfl | (exfalso; omega)
theorem setp_wn (x : Int32) : wI (setp m f q n d) 7 0 0 8 x = setp m f q x d := by
  unfold wI setp
  congr 1
  funext t k g j
  dsimp only
  (repeat' split) <;> first | rfl | (exfalso; omega)
theorem setp_wd (x : Int32) : wI (setp m f q n d) 7 0 0 9 x = setp m f q n x := by
  unfold wI setp
  congr 1
  funext t k g j
  dsimp only
  (repeat' split) <;> first | rfl | (exfalso; omega)
end
def inn (c lo hi : Int32) : Int32 := if c < lo then 0 else if hi < c then 0 else 1
theorem within_inn (m : PM) (c lo hi : Int32) : v_X5_within m c lo hi = inn c lo hi := rfl
theorem z_inn (c lo hi : Int32) : inn c lo hi = 0 ∨ inn c lo hi = 1 := by
  unfold inn
  (repeat' split) <;> first | exact Or.inl rfl | exact Or.inr rfl
def mdf (c : Int32) : Int32 := if ¬ c = (112 : Int32) then (if ¬ c = (115 : Int32) then (if ¬ c = (104 : Int32) then (if ¬ c = (45 : Int32) then (-1 : Int32) else (0 : Int32)) else (3 : Int32)) else (2 : Int32)) else (1 : Int32)
/-- the number n with one digit more -/
def dgn (n a : Int32) : Int32 := if ¬ n = (-1 : Int32) then (10 : Int32) * n + a else a
def dgv (n a : Int32) : Int32 := if inn a 0 9 = 0 then 0 else if n = 0 then 0 else if inn (dgn n a) 0 11 = 0 then 0 else 1
theorem z_dgv (n a : Int32) : dgv n a = 0 ∨ dgv n a = 1 := by
  unfold dgv
  (repeat' split) <;> first | exact Or.inl rfl | exact Or.inr rfl
/-- one sign read -/
def tkv (n d c : Int32) : Int32 := if ¬ d = 0 then (if ¬ d = (1 : Int32) then (if ¬ c = (44 : Int32) then 0 else 1) else if n = (-1 : Int32) then dgv n (c - 48) else if mdf c = (-1 : Int32) then dgv n (c - 48) else 1) else inn c 97 104
def tkm (m : PM) (f : Nat → Int32) (q : Nat) (n d c : Int32) : PM := if ¬ d = 0 then (if ¬ d = (1 : Int32) then setp m f (q + 1) n 0 else if n = (-1 : Int32) then setp m f q (if dgv n (c - 48) = 0 then n else dgn n (c - 48)) d else if mdf c = (-1 : Int32) then setp m f q (if dgv n (c - 48) = 0 then n else dgn n (c - 48)) d else setp m (upd (upd f (3 * q + 1) n) (3 * q + 2) (mdf c)) q n 2) else setp m (upd f (3 * q) (c - 97)) q (-1) 1
theorem r_X5_takes (m : PM) (f : Nat → Int32) (q : Nat) (n d c : Int32) (hq : q < 19) : Rn MX5_takes [vR 7 0 0, vI c] (setp m f q n d) (some (vI (tkv n d c))) (tkm m f q n d c) := by
  refine rn_of [some (vR 7 0 0), some (vI c)] rfl ?_
  refine an_b 3 (pc2 := if ¬ (setp m f q n d).1 7 0 0 9 = 0 then 41 else 7) (L2 := [some (vR 7 0 0), some (vI c)]) (st2 := []) (m1 := setp m f q n d) rfl ?_
  rw [setp_d]
  unfold tkv tkm
  by_cases c1 : d = 0
  · refine an_f (fun k => k c1) ?_
    rw [if_neg (fun k => k c1), if_neg (fun k => k c1)]
    refine an_b 5 (pc2 := 16) (L2 := [some (vR 7 0 0), some (vI c)]) (st2 := [vI ((setp m f q n d).1 7 0 0 7), vI 3, vR 8 3 0]) (m1 := setp m f q n d) rfl ?_
    rw [setp_q]
    refine an_b 4 (pc2 := 21) (L2 := [some (vR 7 0 0), some (vI c)]) (st2 := [vI (c - 97), vI ((3 : Int32) * nI q), vR 8 3 0]) (m1 := setp m f q n d) rfl ?_
    refine an_ast (3 * q) 60 rfl rfl (by decide) (by simp only [ix_lit, pk_mul]) (by omega) (by omega) ?_
    rw [setp_wf]
    refine an_b 6 (pc2 := 32) (L2 := [some (vR 7 0 0), some (vI c)]) (st2 := []) (m1 := wI (wI (setp m (upd f (3 * q) (c - 97)) q n d) 7 0 0 8 (-1)) 7 0 0 9 1) rfl ?_
    rw [setp_wn, setp_wd]
    refine an_b 3 (pc2 := 37) (L2 := [some (vR 7 0 0), some (vI c)]) (st2 := [vI 104, vI 97, vI c]) (m1 := setp m (upd f (3 * q) (c - 97)) q (-1) 1) rfl ?_
    refine an_call (r_X5_within _ c 97 104) rfl rfl rfl rfl ?_
    exact an_retz (z_inn c 97 104) rfl rfl
  · refine an_t c1 ?_
    rw [if_pos c1, if_pos c1]
    refine an_b 4 (pc2 := if ¬ (setp m f q n d).1 7 0 0 9 = (1 : Int32) then 106 else 49) (L2 := [some (vR 7 0 0), some (vI c)]) (st2 := []) (m1 := setp m f q n d) rfl ?_
    rw [setp_d]
    by_cases c2 : d = (1 : Int32)
    · refine an_f (fun k => k c2) ?_
      rw [if_neg (show ¬ ¬ d = (1 : Int32) from fun k => k c2), if_neg (show ¬ ¬ d = (1 : Int32) from fun k => k c2)]
      have D : An MX5_takes 106 [some (vR 7 0 0), some (vI c)] [] (setp m f q n d) (.inl (some (vI (dgv n (c - 48))))) (setp m f q (if dgv n (c - 48) = 0 then n else dgn n (c - 48)) d) := by
        refine an_b 4 (pc2 := if ¬ (setp m f q n d).1 7 0 0 9 = (1 : Int32) then 123 else 114) (L2 := [some (vR 7 0 0), some (vI c)]) (st2 := []) (m1 := setp m f q n d) rfl ?_
        rw [setp_d]
        refine an_f (fun k => k c2) ?_
        refine an_b 4 (pc2 := 119) (L2 := [some (vR 7 0 0), some (vI c)]) (st2 := [vI (c - 48), vR 7 0 0]) (m1 := setp m f q n d) rfl ?_
        have ev : v_X5_takesDigit (setp m f q n d) (c - 48) = dgv n (c - 48) := by
          have e : v_X5_takesDigit (setp m f q n d) (c - 48) = dgv ((setp m f q n d).1 7 0 0 8) (c - 48) := rfl
          rw [e, setp_n]
        have ew : w_X5_takesDigit (setp m f q n d) (c - 48) = setp m f q (if dgv n (c - 48) = 0 then n else dgn n (c - 48)) d := by
          have e : w_X5_takesDigit (setp m f q n d) (c - 48) = wI (setp m f q n d) 7 0 0 8 (if dgv ((setp m f q n d).1 7 0 0 8) (c - 48) = 0 then (setp m f q n d).1 7 0 0 8 else dgn ((setp m f q n d).1 7 0 0 8) (c - 48)) := rfl
          rw [e, setp_n, setp_wn]
        have r := r_X5_takesDigit (setp m f q n d) (c - 48)
        rw [ev, ew] at r
        refine an_call r rfl rfl rfl rfl ?_
        exact an_retz (z_dgv _ _) rfl rfl
      refine an_b 4 (pc2 := if (setp m f q n d).1 7 0 0 8 = (-1 : Int32) then 106 else 57) (L2 := [some (vR 7 0 0), some (vI c)]) (st2 := []) (m1 := setp m f q n d) rfl ?_
      rw [setp_n]
      by_cases c3 : n = (-1 : Int32)
      · refine an_t c3 ?_
        rw [if_pos c3, if_pos c3]
        exact D
      · refine an_f c3 ?_
        rw [if_neg c3, if_neg c3]
        refine an_b 1 (pc2 := 58) (L2 := [some (vR 7 0 0), some (vI c)]) (st2 := [vI c]) (m1 := setp m f q n d) rfl ?_
        refine an_call (r_X5_modeOf _ c) rfl rfl rfl rfl ?_
        show An MX5_takes 61 [some (vR 7 0 0), some (vI c)] [vI (mdf c)] (setp m f q n d) _ _
        refine an_b 2 (pc2 := if mdf c = (-1 : Int32) then 106 else 65) (L2 := [some (vR 7 0 0), some (vI c)]) (st2 := []) (m1 := setp m f q n d) rfl ?_
        by_cases c4 : mdf c = (-1 : Int32)
        · refine an_t c4 ?_
          rw [if_pos c4, if_pos c4]
          exact D
        · refine an_f c4 ?_
          rw [if_neg c4, if_neg c4]
          refine an_b 5 (pc2 := 74) (L2 := [some (vR 7 0 0), some (vI c)]) (st2 := [vI ((setp m f q n d).1 7 0 0 7), vI 3, vR 8 3 0]) (m1 := setp m f q n d) rfl ?_
          rw [setp_q]
          refine an_b 5 (pc2 := 81) (L2 := [some (vR 7 0 0), some (vI c)]) (st2 := [vI ((setp m f q n d).1 7 0 0 8), vI ((3 : Int32) * nI q + 1), vR 8 3 0]) (m1 := setp m f q n d) rfl ?_
          rw [setp_n]
          refine an_ast (3 * q + 1) 60 rfl rfl (by decide) (by simp only [ix_lit, pk_mul, nI_add]) (by omega) (by omega) ?_
          rw [setp_wf]
          refine an_b 5 (pc2 := 91) (L2 := [some (vR 7 0 0), some (vI c)]) (st2 := [vI ((setp m (upd f (3 * q + 1) n) q n d).1 7 0 0 7), vI 3, vR 8 3 0]) (m1 := setp m (upd f (3 * q + 1) n) q n d) rfl ?_
          rw [setp_q]
          refine an_b 4 (pc2 := 95) (L2 := [some (vR 7 0 0), some (vI c)]) (st2 := [vI c, vI ((3 : Int32) * nI q + 2), vR 8 3 0]) (m1 := setp m (upd f (3 * q + 1) n) q n d) rfl ?_
          refine an_call (r_X5_modeOf _ c) rfl rfl rfl rfl ?_
          refine an_ast (3 * q + 2) 60 rfl rfl (by decide) (by simp only [ix_lit, pk_mul, nI_add]) (by omega) (by omega) ?_
          rw [setp_wf]
          show An MX5_takes 99 [some (vR 7 0 0), some (vI c)] [] (setp m (upd (upd f (3 * q + 1) n) (3 * q + 2) (mdf c)) q n d) _ _
          refine an_b 4 (pc2 := 105) (L2 := [some (vR 7 0 0), some (vI c)]) (st2 := [vI 1]) (m1 := wI (setp m (upd (upd f (3 * q + 1) n) (3 * q + 2) (mdf c)) q n d) 7 0 0 9 2) rfl ?_
          rw [setp_wd]
          exact an_ret rfl rfl rfl rfl rfl
    · refine an_t c2 ?_
      rw [if_pos c2, if_pos c2]
      refine an_b 4 (pc2 := if ¬ (setp m f q n d).1 7 0 0 9 = (1 : Int32) then 123 else 114) (L2 := [some (vR 7 0 0), some (vI c)]) (st2 := []) (m1 := setp m f q n d) rfl ?_
      rw [setp_d]
      refine an_t c2 ?_
      refine an_b 3 (pc2 := 128) (L2 := [some (vR 7 0 0), some (vI c)]) (st2 := [vI ((setp m f q n d).1 7 0 0 7), vR 7 0 0]) (m1 := setp m f q n d) rfl ?_
      rw [setp_q]
      refine an_b 3 (pc2 := 133) (L2 := [some (vR 7 0 0), some (vI c)]) (st2 := []) (m1 := wI (setp m f q n d) 7 0 0 7 (nI q + 1)) rfl ?_
      rw [nI_1, setp_wq]
      refine an_b 6 (pc2 := if ¬ c = (44 : Int32) then 148 else 144) (L2 := [some (vR 7 0 0), some (vI c)]) (st2 := []) (m1 := wI (setp m f (q + 1) n d) 7 0 0 9 0) rfl ?_
      rw [setp_wd]
      refine an_ifi (fun c5 => ?_) (fun c5 => ?_)
      · refine an_b 1 (pc2 := 149) (L2 := [some (vR 7 0 0), some (vI c)]) (st2 := [vI 0]) (m1 := setp m f (q + 1) n 0) rfl ?_
        exact an_ret rfl rfl rfl rfl rfl
      · refine an_b 2 (pc2 := 149) (L2 := [some (vR 7 0 0), some (vI c)]) (st2 := [vI 1]) (m1 := setp m f (q + 1) n 0) rfl ?_
        exact an_ret rfl rfl rfl rfl rfl
