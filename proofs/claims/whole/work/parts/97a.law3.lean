/-! the law's other cases, and its loop -/
section
theorem tsw_one {M : MI} {pc : Nat} {L : List (Option PV)} {st : List PV} {m : PM} {x : Int32} {d hi : Int} {os : Array Int} {len : Nat} (ts : List Nat) (td : Nat) (h : asc (mT M) pc = some (.tableswitch d 0 hi os, len)) (hd : bt pc d = some td) (ho : os.toList.map (bt pc) = ts.map some) (hh : hi + 1 = (ts.length : Int) ∧ ts.length < 2 ^ 31) : sm_one M pc L (vI x :: st) m = some (swt x td ts 0, L, st, m) := by
  unfold sm_one
  rw [h]
  show sm_ins _ _ _ _ _ _ _ = _
  have e2 : sm_d (.tableswitch d 0 hi os) len pc L (vI x :: st) m = some (swt x td ts 0, L, st, m) := by
    unfold sm_d
    dsimp only
    by_cases hc : x.toInt < 0 ∨ hi < x.toInt
    · rw [if_pos hc, hd]
      dsimp only
      rw [swt_out]
      intro i hil q
      rw [q, Nat.zero_add, nI_toInt (by omega)] at hc
      omega
    · rw [if_neg hc]
      have hlt : (x.toInt - 0).toNat < ts.length := by omega
      have hsz : os.size = ts.length := by
        have := congrArg List.length ho
        rw [List.length_map, List.length_map, Array.length_toList] at this
        exact this
      have h1 : (os.toList.map (bt pc))[(x.toInt - 0).toNat]? = (ts.map some)[(x.toInt - 0).toNat]? := by rw [ho]
      rw [List.getElem?_map, List.getElem?_map] at h1
      obtain ⟨t, ht⟩ : ∃ t, ts[(x.toInt - 0).toNat]? = some t := ⟨_, List.getElem?_eq_getElem hlt⟩
      rw [ht] at h1
      obtain ⟨o, hoo⟩ : ∃ o, os.toList[(x.toInt - 0).toNat]? = some o := ⟨_, List.getElem?_eq_getElem (by rw [Array.length_toList]; omega)⟩
      rw [hoo] at h1
      have h2 : bt pc o = some t := Option.some.inj h1
      have h3 : os[(x.toInt - 0).toNat]? = some o := by rw [← Array.getElem?_toList]; exact hoo
      rw [h3]
      dsimp only
      rw [h2]
      dsimp only
      rw [swt_in (i := (x.toInt - 0).toNat) (j := 0) ht]
      · apply Int32.toInt_inj.mp
        rw [nI_toInt (by omega)]
        omega
      · omega
  unfold sm_ins
  have n1 : sm_a (.tableswitch d 0 hi os) len pc L (vI x :: st) m = none := by simp [sm_a]
  have n2 : sm_b (.tableswitch d 0 hi os) len pc L (vI x :: st) m = none := by simp [sm_b]
  have n3 : sm_c (.tableswitch d 0 hi os) len pc L (vI x :: st) m = none := by simp [sm_c]
  rw [n1, n2, n3, e2]
variable {Z : LC} {n pc pc2 : Nat} {L L2 : List (Option PV)} {st st2 : List PV} {m m2 : PM} {T : List (Nat × Instr × Nat)}
theorem swt_all {P : Nat → Prop} {x : Int32} {td : Nat} (hd : P td) : ∀ (ts : List Nat) (j : Nat), (∀ t ∈ ts, P t) → P (swt x td ts j)
  | [], j, h => hd
  | t :: r, j, h => by
    unfold swt
    split
    · exact h t List.mem_cons_self
    · exact swt_all hd r (j + 1) (fun t ht => h t (List.mem_cons_of_mem _ ht))
theorem rs_x : RSk Tc [vR 3 0 0] := fun v hv => by rw [List.mem_singleton.mp hv]; exact (show (3 : Nat) ≤ 6 by decide)
theorem rs_m : RSk Tm [vR 7 0 0] := fun v hv => by rw [List.mem_singleton.mp hv]; exact Or.inl rfl
theorem wr_in {m m1 : PM} {s len K : Nat} (H : WR m m s len K) (h : FRk Tc m m1) : WR m m1 s len K := wr_mm H (fun t k g i ht => (h t k g i (by unfold Tc; omega)).1)
theorem wr_out {m1 m2 : PM} {s len K : Nat} (H : WR m1 m2 s len K) (h : FRk Tm m1 m2) : WR m2 m2 s len K := wr_MM H (fun t k g i ht => (h t k g i (by unfold Tm; omega)).1)
def KK (Z : LC) (n i K : Nat) : Prop := ∀ m4 s2 l2, WR m4 m4 s2 l2 (K + 20) → LW Z n 23 (LLi (i + 5)) [] m4
def T_clearBuffer : List (Nat × Instr × Nat) := [(672, .aload_n 1, 1), (673, .invokevirtual 116, 3), (676, .aload_n 2, 1), (677, .invokevirtual 119, 3), (680, .if_icmp .eq 842, 3), (683, .iconst 0, 1), (684, .ireturn, 1)]
set_option maxRecDepth 100000 in
theorem sb_clearBuffer : subB T_clearBuffer = true := by decide +kernel
def T_firstError : List (Nat × Instr × Nat) := [(685, .aload_n 1, 1), (686, .invokevirtual 120, 3), (689, .aload_n 2, 1), (690, .invokevirtual 123, 3), (693, .if_icmp .eq 829, 3), (696, .iconst 0, 1), (697, .ireturn, 1)]
set_option maxRecDepth 100000 in
theorem sb_firstError : subB T_firstError = true := by decide +kernel
def T_busiest : List (Nat × Instr × Nat) := [(1454, .aload_n 1, 1), (1455, .invokevirtual 162, 3), (1458, .aload_n 2, 1), (1459, .invokevirtual 165, 3), (1462, .if_icmp .eq 60, 3), (1465, .iconst 0, 1), (1466, .ireturn, 1)]
set_option maxRecDepth 100000 in
theorem sb_busiest : subB T_busiest = true := by decide +kernel
def T_share : List (Nat × Instr × Nat) := [(1467, .aload_n 1, 1), (1468, .invokevirtual 166, 3), (1471, .dstore 5, 2), (1473, .aload_n 2, 1), (1474, .invokevirtual 170, 3), (1477, .dstore 7, 2), (1479, .dload 5, 2), (1481, .dload 7, 2), (1483, .dcmp .l, 1), (1484, .ifCond .eq 21, 3), (1487, .dload 5, 2), (1489, .dload 5, 2), (1491, .dcmp .l, 1), (1492, .ifCond .eq 11, 3), (1495, .dload 7, 2), (1497, .dload 7, 2), (1499, .dcmp .l, 1), (1500, .ifCond .ne 5, 3), (1503, .iconst 0, 1), (1504, .ireturn, 1), (1505, .goto 17, 3)]
set_option maxRecDepth 100000 in
theorem sb_share : subB T_share = true := by decide +kernel
def T_digest : List (Nat × Instr × Nat) := [(1508, .aload_n 1, 1), (1509, .invokevirtual 171, 3), (1512, .aload_n 2, 1), (1513, .invokevirtual 175, 3), (1516, .lcmp, 1), (1517, .ifCond .eq 5, 3), (1520, .iconst 0, 1), (1521, .ireturn, 1)]
set_option maxRecDepth 100000 in
theorem sb_digest : subB T_digest = true := by decide +kernel
def T_head : List (Nat × Instr × Nat) := [(23, .iload 4, 2), (25, .aload_n 0, 1), (26, .arraylength, 1), (27, .iconst 5, 1), (28, .isub, 1), (29, .if_icmp .gt 1499, 3), (32, .aload_n 0, 1), (33, .iload 4, 2), (35, .iaload, 1), (36, .bipush 31, 2), (38, .iand, 1), (39, .tableswitch 1483 0 24 #[113, 193, 261, 317, 397, 453, 509, 577, 633, 646, 659, 703, 747, 815, 883, 951, 1031, 1087, 1143, 1235, 1303, 1359, 1415, 1428, 1469], 113)]
set_option maxRecDepth 100000 in
theorem sb_head : subB T_head = true := by decide +kernel
def T_fin : List (Nat × Instr × Nat) := [(1528, .iconst 1, 1), (1529, .ireturn, 1)]
set_option maxRecDepth 100000 in
theorem sb_fin : subB T_fin = true := by decide +kernel
theorem lc_clearBuffer (hZ : LOK Z) {i s len K : Nat} (H : WR m m s len K) (hK : K ≤ 100000000) (kk : KK Z n i K) : LW Z n 672 (LLi i) [] m := by
  show LW Z n 672 [some (vR 10 0 0), some (vR 3 0 0), some (vR 7 0 0), some (vR 9 0 0), some (vI (nI i)), none, none, none, none] [] m
  have r4 := r_X4_clearBuffer m
  have h1 := wr_in H (fr_rn cl_Tc rs_x r4)
  have r5 := r_X5_clearBuffer (w_X4_clearBuffer m)
  obtain ⟨hv, h2⟩ := face_clearBuffer h1
  have hW := wr_out h2 (fr_rn cl_Tm rs_m r5)
  refine lw_c hZ sb_clearBuffer 1 (pc2 := 673) (L2 := [some (vR 10 0 0), some (vR 3 0 0), some (vR 7 0 0), some (vR 9 0 0), some (vI (nI i)), none, none, none, none]) (st2 := [vR 3 0 0]) (m2 := m) rfl ?_
  refine lw_call hZ [] (rest := []) r4 (sub_at sb_clearBuffer rfl) rfl rfl rfl rfl rfl ?_
  refine lw_c hZ sb_clearBuffer 1 (pc2 := 677) (L2 := [some (vR 10 0 0), some (vR 3 0 0), some (vR 7 0 0), some (vR 9 0 0), some (vI (nI i)), none, none, none, none]) (st2 := [vR 7 0 0, vI (v_X4_clearBuffer m)]) (m2 := w_X4_clearBuffer m) rfl ?_
  refine lw_call hZ [] (rest := [vI (v_X4_clearBuffer m)]) r5 (sub_at sb_clearBuffer rfl) rfl rfl rfl rfl rfl ?_
  refine lw_c hZ sb_clearBuffer 1 (pc2 := if v_X4_clearBuffer m = v_X5_clearBuffer (w_X4_clearBuffer m) then 1522 else 683) (L2 := [some (vR 10 0 0), some (vR 3 0 0), some (vR 7 0 0), some (vR 9 0 0), some (vI (nI i)), none, none, none, none]) (st2 := []) (m2 := w_X5_clearBuffer (w_X4_clearBuffer m)) rfl ?_
  exact lw_t hv (lc_end hZ (kk _ _ _ hW))
theorem lc_firstError (hZ : LOK Z) {i s len K : Nat} (H : WR m m s len K) (hK : K ≤ 100000000) (kk : KK Z n i K) : LW Z n 685 (LLi i) [] m := by
  show LW Z n 685 [some (vR 10 0 0), some (vR 3 0 0), some (vR 7 0 0), some (vR 9 0 0), some (vI (nI i)), none, none, none, none] [] m
  have r4 := r_X4_firstError m
  obtain ⟨r5, h2⟩ := face_firstError H
  have hW := wr_out h2 (fr_rn cl_Tm rs_m r5)
  have hv : v_X4_firstError m = v_X4_firstError m := rfl
  refine lw_c hZ sb_firstError 1 (pc2 := 686) (L2 := [some (vR 10 0 0), some (vR 3 0 0), some (vR 7 0 0), some (vR 9 0 0), some (vI (nI i)), none, none, none, none]) (st2 := [vR 3 0 0]) (m2 := m) rfl ?_
  refine lw_call hZ [] (rest := []) r4 (sub_at sb_firstError rfl) rfl rfl rfl rfl rfl ?_
  refine lw_c hZ sb_firstError 1 (pc2 := 690) (L2 := [some (vR 10 0 0), some (vR 3 0 0), some (vR 7 0 0), some (vR 9 0 0), some (vI (nI i)), none, none, none, none]) (st2 := [vR 7 0 0, vI (v_X4_firstError m)]) (m2 := m) rfl ?_
  refine lw_call hZ [] (rest := [vI (v_X4_firstError m)]) r5 (sub_at sb_firstError rfl) rfl rfl rfl rfl rfl ?_
  refine lw_c hZ sb_firstError 1 (pc2 := if v_X4_firstError m = v_X4_firstError m then 1522 else 696) (L2 := [some (vR 10 0 0), some (vR 3 0 0), some (vR 7 0 0), some (vR 9 0 0), some (vI (nI i)), none, none, none, none]) (st2 := []) (m2 := w_X5_rightUpTo (wI m 7 0 0 5 0) len) rfl ?_
  exact lw_t hv (lc_end hZ (kk _ _ _ hW))
theorem lc_busiest (hZ : LOK Z) {i s len K : Nat} (H : WR m m s len K) (hK : K ≤ 100000000) (kk : KK Z n i K) : LW Z n 1454 (LLi i) [] m := by
  show LW Z n 1454 [some (vR 10 0 0), some (vR 3 0 0), some (vR 7 0 0), some (vR 9 0 0), some (vI (nI i)), none, none, none, none] [] m
  have r4 := r_X4_busiest m
  have r5 := r_X5_busiest m (wr_ql H)
  obtain ⟨hv, h2⟩ := face_busiest H
  have hW := wr_out h2 (fr_rn cl_Tm rs_m r5)
  refine lw_c hZ sb_busiest 1 (pc2 := 1455) (L2 := [some (vR 10 0 0), some (vR 3 0 0), some (vR 7 0 0), some (vR 9 0 0), some (vI (nI i)), none, none, none, none]) (st2 := [vR 3 0 0]) (m2 := m) rfl ?_
  refine lw_call hZ [] (rest := []) r4 (sub_at sb_busiest rfl) rfl rfl rfl rfl rfl ?_
  refine lw_c hZ sb_busiest 1 (pc2 := 1459) (L2 := [some (vR 10 0 0), some (vR 3 0 0), some (vR 7 0 0), some (vR 9 0 0), some (vI (nI i)), none, none, none, none]) (st2 := [vR 7 0 0, vI (v_X4_busiest m)]) (m2 := m) rfl ?_
  refine lw_call hZ [] (rest := [vI (v_X4_busiest m)]) r5 (sub_at sb_busiest rfl) rfl rfl rfl rfl rfl ?_
  refine lw_c hZ sb_busiest 1 (pc2 := if v_X4_busiest m = v_X5_busiest m then 1522 else 1465) (L2 := [some (vR 10 0 0), some (vR 3 0 0), some (vR 7 0 0), some (vR 9 0 0), some (vI (nI i)), none, none, none, none]) (st2 := []) (m2 := w_X5_busiest m) rfl ?_
  exact lw_t hv (lc_end hZ (kk _ _ _ hW))
theorem lc_share (hZ : LOK Z) {i s len K : Nat} (H : WR m m s len K) (hK : K ≤ 100000000) (kk : KK Z n i K) : LW Z n 1467 (LLi i) [] m := by
  show LW Z n 1467 [some (vR 10 0 0), some (vR 3 0 0), some (vR 7 0 0), some (vR 9 0 0), some (vI (nI i)), none, none, none, none] [] m
  have r4 := r_X4_grantedShare m
  have r5 := r_X5_grantedShare m
  obtain ⟨hv, h2⟩ := face_share H
  have hW := wr_out h2 (fr_rn cl_Tm rs_m r5)
  have hg := gsh_nan (gsh_R H hK)
  have hn : Op.cmpValue (FP.dcmp (v_X4_grantedShare m) (v_X4_grantedShare m)) .l = 0 := by
    unfold v_isNaN at hg
    by_cases k : Op.cmpValue (FP.dcmp (v_X2_shareGranted m 0) (v_X2_shareGranted m 0)) .l = 0
    · exact k
    · rw [if_neg k] at hg; exact absurd hg (by decide)
  rw [← hv] at r5
  generalize v_X4_grantedShare m = x at *
  refine lw_c hZ sb_share 1 (pc2 := 1468) (L2 := [some (vR 10 0 0), some (vR 3 0 0), some (vR 7 0 0), some (vR 9 0 0), some (vI (nI i)), none, none, none, none]) (st2 := [vR 3 0 0]) (m2 := m) rfl ?_
  refine lw_call hZ [] (rest := []) r4 (sub_at sb_share rfl) rfl rfl rfl rfl rfl ?_
  refine lw_c hZ sb_share 2 (pc2 := 1474) (L2 := [some (vR 10 0 0), some (vR 3 0 0), some (vR 7 0 0), some (vR 9 0 0), some (vI (nI i)), some (vD x), none, none, none]) (st2 := [vR 7 0 0]) (m2 := m) rfl ?_
  refine lw_call hZ [] (rest := []) r5 (sub_at sb_share rfl) rfl rfl rfl rfl rfl ?_
  refine lw_c hZ sb_share 5 (pc2 := if Op.cmpValue (FP.dcmp x x) .l = 0 then 1505 else 1487) (L2 := [some (vR 10 0 0), some (vR 3 0 0), some (vR 7 0 0), some (vR 9 0 0), some (vI (nI i)), some (vD x), none, some (vD x), none]) (st2 := []) (m2 := w_X5_grantedShare m) rfl ?_
  refine lw_t hn ?_
  refine lw_c hZ sb_share 1 (pc2 := 1522) (L2 := [some (vR 10 0 0), some (vR 3 0 0), some (vR 7 0 0), some (vR 9 0 0), some (vI (nI i)), some (vD x), none, some (vD x), none]) (st2 := []) (m2 := w_X5_grantedShare m) rfl ?_
  exact lc_end hZ (kk _ _ _ hW)
theorem lc_digest (hZ : LOK Z) {i s len K : Nat} (H : WR m m s len K) (hK : K ≤ 100000000) (kk : KK Z n i K) : LW Z n 1508 (LLi i) [] m := by
  show LW Z n 1508 [some (vR 10 0 0), some (vR 3 0 0), some (vR 7 0 0), some (vR 9 0 0), some (vI (nI i)), none, none, none, none] [] m
  have hd0 : v_dtl (v_X5_share m) = (v_X5_share m).toInt64 := by rw [← share_W H]; exact gsh_dtl (gsh_R H hK)
  obtain ⟨c, hc⟩ := (digest_R H hd0).2.2
  have r4 := r_X4_digest m (by
    show gsh (v_X2_shareGranted (w_X4_digest m) 0)
    rw [hc, share_1]
    exact gsh_R H hK)
  have h1 := wr_in H (fr_rn cl_Tc rs_x r4)
  obtain ⟨hv, r5, h2⟩ := face_digest h1 (by rw [← share_W h1]; exact gsh_dtl (gsh_R H hK))
  have hW := wr_out h2 (fr_rn cl_Tm rs_m r5)
  rw [← hv] at r5
  generalize v_X4_digest m = x at *
  refine lw_c hZ sb_digest 1 (pc2 := 1509) (L2 := [some (vR 10 0 0), some (vR 3 0 0), some (vR 7 0 0), some (vR 9 0 0), some (vI (nI i)), none, none, none, none]) (st2 := [vR 3 0 0]) (m2 := m) rfl ?_
  refine lw_call hZ [] (rest := []) r4 (sub_at sb_digest rfl) rfl rfl rfl rfl rfl ?_
  refine lw_c hZ sb_digest 1 (pc2 := 1513) (L2 := [some (vR 10 0 0), some (vR 3 0 0), some (vR 7 0 0), some (vR 9 0 0), some (vI (nI i)), none, none, none, none]) (st2 := [vR 7 0 0, vL x]) (m2 := w_X4_digest m) rfl ?_
  refine lw_call hZ [] (rest := [vL x]) r5 (sub_at sb_digest rfl) rfl rfl rfl rfl rfl ?_
  refine lw_c hZ sb_digest 2 (pc2 := if lg_cmp x x = 0 then 1522 else 1520) (L2 := [some (vR 10 0 0), some (vR 3 0 0), some (vR 7 0 0), some (vR 9 0 0), some (vI (nI i)), none, none, none, none]) (st2 := []) (m2 := w_X5_digest (w_X4_digest m) len) rfl ?_
  exact lw_t (lg_same x) (lc_end hZ (kk _ _ _ hW))
theorem le_i {L i : Nat} (hL : L ≤ 2560) (hi : i ≤ 2600) : (nI L - 5 < nI i) ↔ L < i + 5 := by
  have e : (nI L - 5).toInt = (L : Int) - 5 := by
    rw [Int32.toInt_sub, nI_toInt (by omega)]
    show ((L : Int) - 5).bmod (2 ^ 32) = _
    unfold Int.bmod
    rw [show ((2 ^ 32 : Nat) : Int) = 4294967296 from rfl]
    dsimp only
    split <;> omega
  rw [Int32.lt_iff_toInt_lt, e, nI_toInt (by omega)]
  omega
theorem law_loop (hZ : LOK Z) (hdcL : ∀ M ∈ WL, dcG M) (hL : zL9 Z ≤ 2560) (hend : ∀ i m, LW Z 0 1529 (LLi i) [vI 1] m) : ∀ (n i : Nat) {m : PM} {s len K : Nat}, zL9 Z < i + 5 * n + 5 → i ≤ zL9 Z → K + 20 * n ≤ 100000000 → WR m m s len K → LW Z n 23 (LLi i) [] m := by
  intro n
  have out : ∀ (n i : Nat) (m : PM), LW Z n 1528 (LLi i) [] m := fun n i m => by
    refine lw_c hZ sb_fin 1 (pc2 := 1529) (L2 := LLi i) (st2 := [vI 1]) (m2 := m) rfl ?_
    exact lw_le (Nat.zero_le n) (hend i m)
  induction n with
  | zero =>
    intro i m s len K h1 h2 h3 H
    refine lw_hr (fun ⟨e1, e2, e3⟩ => ?_)
    show LW Z 0 23 [some (vR 10 0 0), some (vR 3 0 0), some (vR 7 0 0), some (vR 9 0 0), some (vI (nI i)), none, none, none, none] [] m
    refine lw_c hZ sb_head 6 (pc2 := if m.1 10 0 1 0 - 5 < nI i then 1528 else 32) (L2 := [some (vR 10 0 0), some (vR 3 0 0), some (vR 7 0 0), some (vR 9 0 0), some (vI (nI i)), none, none, none, none]) (st2 := []) (m2 := m) rfl ?_
    exact lw_t (by rw [e1]; exact (le_i hL (by omega)).2 (by omega)) (out 0 i m)
  | succ n ih =>
    intro i m s len K h1 h2 h3 H
    refine lw_hr (fun ⟨e1, e2, e3⟩ => ?_)
    show LW Z (n + 1) 23 [some (vR 10 0 0), some (vR 3 0 0), some (vR 7 0 0), some (vR 9 0 0), some (vI (nI i)), none, none, none, none] [] m
    refine lw_c hZ sb_head 6 (pc2 := if m.1 10 0 1 0 - 5 < nI i then 1528 else 32) (L2 := [some (vR 10 0 0), some (vR 3 0 0), some (vR 7 0 0), some (vR 9 0 0), some (vI (nI i)), none, none, none, none]) (st2 := []) (m2 := m) rfl ?_
    by_cases hi : zL9 Z < i + 5
    · exact lw_t (by rw [e1]; exact (le_i hL (by omega)).2 hi) (out (n + 1) i m)
    · refine lw_f (by rw [e1]; exact fun q => hi ((le_i hL (by omega)).1 q)) ?_
      have kk : KK Z n i K := fun m4 s2 l2 hW => ih (i + 5) (by omega) (by omega) (by omega) hW
      refine lw_c hZ sb_head 2 (pc2 := 35) (L2 := [some (vR 10 0 0), some (vR 3 0 0), some (vR 7 0 0), some (vR 9 0 0), some (vI (nI i)), none, none, none, none]) (st2 := [vI (nI i), vR 10 0 0]) (m2 := m) rfl ?_
      refine lw_s hZ sb_head i rfl rfl (by omega) ?_
      refine lw_c hZ sb_head 2 (pc2 := 39) (L2 := [some (vR 10 0 0), some (vR 3 0 0), some (vR 7 0 0), some (vR 9 0 0), some (vI (nI i)), none, none, none, none]) (st2 := [vI (zxs Z i &&& 31)]) (m2 := m) rfl ?_
      refine lw_b hZ 1 (pc2 := swt (zxs Z i &&& 31) 1522 [152, 232, 300, 356, 436, 492, 548, 616, 672, 685, 698, 742, 786, 854, 922, 990, 1070, 1126, 1182, 1274, 1342, 1398, 1454, 1467, 1508] 0) (L2 := [some (vR 10 0 0), some (vR 3 0 0), some (vR 7 0 0), some (vR 9 0 0), some (vI (nI i)), none, none, none, none]) (st2 := []) (m2 := m) ?_ ?_
      · show (match sm_one ML_law 39 _ _ m with | some s2 => sm_many 0 ML_law s2 | none => none) = _
        rw [tsw_one [152, 232, 300, 356, 436, 492, 548, 616, 672, 685, 698, 742, 786, 854, 922, 990, 1070, 1126, 1182, 1274, 1342, 1398, 1454, 1467, 1508] 1522 (sub_at sb_head rfl) rfl rfl (by decide)]
        rfl
      · refine swt_all (P := fun pc => LW Z (n + 1) pc [some (vR 10 0 0), some (vR 3 0 0), some (vR 7 0 0), some (vR 9 0 0), some (vI (nI i)), none, none, none, none] [] m) (lc_end hZ (lw_le (Nat.le_succ n) (kk m s len (wr_le H (by omega))))) _ 0 (fun t ht => ?_)
        simp only [List.mem_cons, List.not_mem_nil, or_false] at ht
        rcases ht with rfl | rfl | rfl | rfl | rfl | rfl | rfl | rfl | rfl | rfl | rfl | rfl | rfl | rfl | rfl | rfl | rfl | rfl | rfl | rfl | rfl | rfl | rfl | rfl | rfl
        · exact lc_ask hZ hdcL (by omega) H kk
        · exact lc_release hZ hdcL (by omega) H kk
        · exact lc_giveUp hZ hdcL (by omega) H kk
        · exact lc_handOn hZ hdcL (by omega) H kk
        · exact lc_pass hZ hdcL (by omega) H kk
        · exact lc_cool hZ hdcL (by omega) H kk
        · exact lc_set hZ hdcL (by omega) H kk
        · exact lc_append hZ hdcL (by omega) H kk
        · exact lw_le (Nat.le_succ n) (lc_clearBuffer hZ H (by omega) kk)
        · exact lw_le (Nat.le_succ n) (lc_firstError hZ H (by omega) kk)
        · exact lc_run hZ hdcL (by omega) H kk
        · exact lc_undo hZ hdcL (by omega) H kk
        · exact lc_lock hZ hdcL (by omega) H kk
        · exact lc_hand hZ hdcL (by omega) H kk
        · exact lc_row hZ hdcL (by omega) H kk
        · exact lc_request hZ hdcL (by omega) H kk
        · exact lc_count hZ hdcL (by omega) H kk
        · exact lc_setting hZ hdcL (by omega) H kk
        · exact lc_ifAsked hZ hdcL (by omega) H kk
        · exact lc_takers hZ hdcL (by omega) H kk
        · exact lc_burnsIn hZ hdcL (by omega) H kk
        · exact lc_waitsFor hZ hdcL (by omega) H kk
        · exact lw_le (Nat.le_succ n) (lc_busiest hZ H (by omega) kk)
        · exact lw_le (Nat.le_succ n) (lc_share hZ H (by omega) kk)
        · exact lw_le (Nat.le_succ n) (lc_digest hZ H (by omega) kk)
end
