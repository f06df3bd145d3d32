/-! the law's cases (make_law.py) -/
section
def mlT (T : List (Nat × Instr × Nat)) : MI := (yL_law, cL_law, 9, (some .boolean), 6, 1, 11, 267, T)
def subB (T : List (Nat × Instr × Nat)) : Bool := T.all fun e => decide (asc (mT ML_law) e.1 = some e.2)
theorem sub_at {T : List (Nat × Instr × Nat)} {pc : Nat} {q : Instr × Nat} (hT : subB T = true) (h : asc T pc = some q) : asc (mT ML_law) pc = some q := of_decide_eq_true (List.all_eq_true.mp hT (pc, q) (asc_mem h))
theorem sub_one {T : List (Nat × Instr × Nat)} {pc : Nat} {L : List (Option PV)} {st : List PV} {m : PM} {r : PS} (hT : subB T = true) (h : sm_one (mlT T) pc L st m = some r) : sm_one ML_law pc L st m = some r := by
  unfold sm_one at h ⊢
  have h : (match asc T pc with | some (i, n) => sm_ins 6 i n pc L st m | none => none) = some r := h
  cases h1 : asc T pc with
  | none => rw [h1] at h; cases h
  | some q =>
    rw [h1] at h
    rw [sub_at hT h1]
    exact h
theorem sub_many {T : List (Nat × Instr × Nat)} (hT : subB T = true) : ∀ (k : Nat) {s r : PS}, sm_many k (mlT T) s = some r → sm_many k ML_law s = some r := by
  intro k
  induction k with
  | zero => intro s r h; exact h
  | succ k ih =>
    intro s r h
    obtain ⟨pc, L, st, m⟩ := s
    unfold sm_many at h ⊢
    cases h1 : sm_one (mlT T) pc L st m with
    | none => rw [h1] at h; cases h
    | some r1 =>
      rw [h1] at h
      rw [sub_one hT h1]
      exact ih h
variable {Z : LC} {n pc pc2 : Nat} {L L2 : List (Option PV)} {st st2 : List PV} {m m2 : PM} {T : List (Nat × Instr × Nat)}
theorem lw_c (hZ : LOK Z) (hT : subB T = true) (k : Nat) (h : sm_many k (mlT T) (pc, L, st, m) = some (pc2, L2, st2, m2)) (kk : LW Z n pc2 L2 st2 m2) : LW Z n pc L st m := lw_b hZ k (sub_many hT k h) kk
theorem lw_s (hZ : LOK Z) (hT : subB T = true) {r : List PV} {x : Int32} (j : Nat) (hx : x = nI j) (h : asc T pc = some (.iaload, 1)) (hj : j < zL9 Z) (kk : LW Z n (pc + 1) L (vI (zxs Z j) :: r) m) : LW Z n pc L (vI x :: vR 10 0 0 :: r) m := by
  subst hx
  exact lw_scr hZ (sub_at hT h) hj kk
theorem le_lr : ∀ {L K : List (Option PV)}, LE L K → L.length = K.length ∧ ∀ (k : Nat) (v : PV), L[k]? = some (some v) → K[k]? = some (some v)
  | [], [], _ => ⟨rfl, fun k v h => h⟩
  | [], _ :: _, h => h.elim
  | none :: r, [], h => h.elim
  | some a :: r, [], h => h.elim
  | none :: r, y :: q, h => by
    obtain ⟨a, b⟩ := le_lr (L := r) (K := q) h
    refine ⟨congrArg (· + 1) a, fun k v hk => ?_⟩
    cases k with
    | zero => cases hk
    | succ k => exact b k v hk
  | some a :: r, none :: q, h => h.elim
  | some a :: r, some c :: q, h => by
    obtain ⟨rfl, h⟩ := h
    obtain ⟨a1, b⟩ := le_lr (L := r) (K := q) h
    refine ⟨congrArg (· + 1) a1, fun k v hk => ?_⟩
    cases k with
    | zero => exact hk
    | succ k => exact b k v hk
theorem lr_le {ad : PR → Nat} {N : Nat} {L K : List (Option PV)} {ls : Array Slot} (h : LE L K) (hl : LR ad N K ls) : LR ad N L ls := by
  obtain ⟨a, b⟩ := le_lr h
  obtain ⟨h1, ⟨h2, h3, h4⟩, h5⟩ := hl
  refine ⟨a.trans h1, ⟨h2, h3, fun q hq => ?_⟩, fun k v hk => h5 k v (b k v hk)⟩
  obtain ⟨j, x⟩ := q
  obtain ⟨k, v, rfl, hk, rfl⟩ := lvl_mem.mp hq
  exact h4 _ (lvl_mem.mpr ⟨k, v, rfl, b k v hk, rfl⟩)
theorem lw_weak {K : List (Option PV)} (h : LE L K) (kk : LW Z n pc L st m) : LW Z n pc K st m := fun H locs ls cells slots h1 h2 hP hD hS hl hs => kk H locs ls cells slots h1 h2 hP hD hS (lr_le h hl) hs
def T_end : List (Nat × Instr × Nat) := [(1522, .iinc 4 5, 3), (1525, .goto (-1502), 3)]
set_option maxRecDepth 100000 in
theorem sb_end : subB T_end = true := by decide +kernel
def WL : List MI := [ML_ask, ML_release, ML_giveUp, ML_handOn, ML_pass, ML_cool, ML_set, ML_append, ML_run, ML_undo, ML_lock, ML_hand, ML_row, ML_request, ML_count, ML_setting, ML_ifAsked, ML_takers, ML_burnsIn, ML_waitsFor]
theorem lg_same (x : Int64) : lg_cmp x x = 0 := by
  unfold lg_cmp
  simp
def LLi (i : Nat) : List (Option PV) := [some (vR 10 0 0), some (vR 3 0 0), some (vR 7 0 0), some (vR 9 0 0), some (vI (nI i)), none, none, none, none]
theorem lc_end (hZ : LOK Z) {i : Nat} {k b c d : Option PV} (kk : LW Z n 23 (LLi (i + 5)) [] m) : LW Z n 1522 [some (vR 10 0 0), some (vR 3 0 0), some (vR 7 0 0), some (vR 9 0 0), some (vI (nI i)), k, b, c, d] [] m := by
  refine lw_c hZ sb_end 2 (pc2 := 23) (L2 := [some (vR 10 0 0), some (vR 3 0 0), some (vR 7 0 0), some (vR 9 0 0), some (vI (nI i + nI 5)), k, b, c, d]) (st2 := []) (m2 := m) rfl ?_
  rw [show nI i + nI 5 = nI (i + 5) from nI_add i 5]
  exact lw_weak (L := LLi (i + 5)) (And.intro rfl (And.intro rfl (And.intro rfl (And.intro rfl (And.intro rfl trivial))))) kk
def T_ask : List (Nat × Instr × Nat) := [(152, .aload_n 1, 1), (153, .aload_n 0, 1), (154, .iload 4, 2), (156, .iconst 1, 1), (157, .iadd, 1), (158, .iaload, 1), (159, .aload_n 0, 1), (160, .iload 4, 2), (162, .iconst 2, 1), (163, .iadd, 1), (164, .iaload, 1), (165, .aload_n 0, 1), (166, .iload 4, 2), (168, .iconst 3, 1), (169, .iadd, 1), (170, .iaload, 1), (171, .aload_n 3, 1), (172, .invokestatic 84, 3), (175, .istore 5, 2), (177, .aload_n 2, 1), (178, .aload_n 0, 1), (179, .iload 4, 2), (181, .iconst 1, 1), (182, .iadd, 1), (183, .iaload, 1), (184, .aload_n 0, 1), (185, .iload 4, 2), (187, .iconst 2, 1), (188, .iadd, 1), (189, .iaload, 1), (190, .aload_n 0, 1), (191, .iload 4, 2), (193, .iconst 3, 1), (194, .iadd, 1), (195, .iaload, 1), (196, .invokevirtual 89, 3), (199, .istore 6, 2), (201, .aload_n 2, 1), (202, .invokevirtual 90, 3), (205, .iload 5, 2), (207, .if_icmp .eq 5, 3), (210, .iconst 0, 1), (211, .ireturn, 1), (212, .iload 5, 2), (214, .ifCond .ne 15, 3), (217, .aload_n 3, 1), (218, .iconst 0, 1), (219, .laload, 1), (220, .iload 6, 2), (222, .i2l, 1), (223, .lcmp, 1), (224, .ifCond .eq 5, 3), (227, .iconst 0, 1), (228, .ireturn, 1), (229, .goto 1293, 3)]
set_option maxRecDepth 100000 in
theorem sb_ask : subB T_ask = true := by decide +kernel
set_option maxRecDepth 100000 in
theorem wl_ask : wlG 84 ML_ask (hhO 12 hs_ask) = true := by decide +kernel
theorem lc_ask (hZ : LOK Z) (hdcL : ∀ M ∈ WL, dcG M) {i s len K : Nat} (hi : i + 5 ≤ zL9 Z) (H : WR m m s len K) (kk : ∀ m4 s2 l2, WR m4 m4 s2 l2 (K + 20) → LW Z n 23 (LLi (i + 5)) [] m4) : LW Z (n + 1) 152 (LLi i) [] m := by
  obtain ⟨b, m4, s2, l2, hr, hW, ht, h0⟩ := st_ask H (zxs Z (i + 1)) (zxs Z (i + 2)) (zxs Z (i + 3))
  show LW Z (n + 1) 152 [some (vR 10 0 0), some (vR 3 0 0), some (vR 7 0 0), some (vR 9 0 0), some (vI (nI i)), none, none, none, none] [] m
  refine lw_c hZ sb_ask 5 (pc2 := 158) (L2 := [some (vR 10 0 0), some (vR 3 0 0), some (vR 7 0 0), some (vR 9 0 0), some (vI (nI i)), none, none, none, none]) (st2 := [vI (nI i + nI 1), vR 10 0 0, vR 3 0 0]) (m2 := m) rfl ?_
  refine lw_s hZ sb_ask (i + 1) (nI_add i 1) rfl (by omega) ?_
  refine lw_c hZ sb_ask 4 (pc2 := 164) (L2 := [some (vR 10 0 0), some (vR 3 0 0), some (vR 7 0 0), some (vR 9 0 0), some (vI (nI i)), none, none, none, none]) (st2 := [vI (nI i + nI 2), vR 10 0 0, vI (zxs Z (i + 1)), vR 3 0 0]) (m2 := m) rfl ?_
  refine lw_s hZ sb_ask (i + 2) (nI_add i 2) rfl (by omega) ?_
  refine lw_c hZ sb_ask 4 (pc2 := 170) (L2 := [some (vR 10 0 0), some (vR 3 0 0), some (vR 7 0 0), some (vR 9 0 0), some (vI (nI i)), none, none, none, none]) (st2 := [vI (nI i + nI 3), vR 10 0 0, vI (zxs Z (i + 2)), vI (zxs Z (i + 1)), vR 3 0 0]) (m2 := m) rfl ?_
  refine lw_s hZ sb_ask (i + 3) (nI_add i 3) rfl (by omega) ?_
  refine lw_c hZ sb_ask 1 (pc2 := 172) (L2 := [some (vR 10 0 0), some (vR 3 0 0), some (vR 7 0 0), some (vR 9 0 0), some (vI (nI i)), none, none, none, none]) (st2 := [vR 9 0 0, vI (zxs Z (i + 3)), vI (zxs Z (i + 2)), vI (zxs Z (i + 1)), vR 3 0 0]) (m2 := m) rfl ?_
  refine lw_wrap hZ (M := ML_ask) (x := 84) (as := [vR 3 0 0, vI (zxs Z (i + 1)), vI (zxs Z (i + 2)), vI (zxs Z (i + 3)), vR 9 0 0]) wl_ask ?_ rfl (by decide) (fun hD => mw_ask hZ.1 hZ.2.1 hZ.2.2.1 hZ.2.2.2.1 (hdcL _ (List.mem_of_getElem? (i := 0) rfl)) hD (zxs Z (i + 1)) (zxs Z (i + 2)) (zxs Z (i + 3))) (sub_at sb_ask rfl) rfl ?_
  · intro u hu
    simp only [List.mem_cons, List.not_mem_nil, or_false] at hu
    rcases hu with rfl | rfl | rfl | rfl | rfl <;> rfl
  generalize (wo (e3 1 2 3) (o_X4_ask m (zxs Z (i + 1)) (zxs Z (i + 2)) (zxs Z (i + 3))) (w_X4_ask m (zxs Z (i + 1)) (zxs Z (i + 2)) (zxs Z (i + 3)))) = W at *
  obtain ⟨r, m3⟩ := W
  dsimp only at hr ht h0 ⊢
  refine lw_c hZ sb_ask 6 (pc2 := 183) (L2 := [some (vR 10 0 0), some (vR 3 0 0), some (vR 7 0 0), some (vR 9 0 0), some (vI (nI i)), some (vI r), none, none, none]) (st2 := [vI (nI i + nI 1), vR 10 0 0, vR 7 0 0]) (m2 := m3) rfl ?_
  refine lw_s hZ sb_ask (i + 1) (nI_add i 1) rfl (by omega) ?_
  refine lw_c hZ sb_ask 4 (pc2 := 189) (L2 := [some (vR 10 0 0), some (vR 3 0 0), some (vR 7 0 0), some (vR 9 0 0), some (vI (nI i)), some (vI r), none, none, none]) (st2 := [vI (nI i + nI 2), vR 10 0 0, vI (zxs Z (i + 1)), vR 7 0 0]) (m2 := m3) rfl ?_
  refine lw_s hZ sb_ask (i + 2) (nI_add i 2) rfl (by omega) ?_
  refine lw_c hZ sb_ask 4 (pc2 := 195) (L2 := [some (vR 10 0 0), some (vR 3 0 0), some (vR 7 0 0), some (vR 9 0 0), some (vI (nI i)), some (vI r), none, none, none]) (st2 := [vI (nI i + nI 3), vR 10 0 0, vI (zxs Z (i + 2)), vI (zxs Z (i + 1)), vR 7 0 0]) (m2 := m3) rfl ?_
  refine lw_s hZ sb_ask (i + 3) (nI_add i 3) rfl (by omega) ?_
  refine lw_call hZ (M2 := MX5_ask) [vI (zxs Z (i + 1)), vI (zxs Z (i + 2)), vI (zxs Z (i + 3))] (rest := []) hr (sub_at sb_ask rfl) rfl rfl rfl rfl rfl ?_
  refine lw_c hZ sb_ask 2 (pc2 := 202) (L2 := [some (vR 10 0 0), some (vR 3 0 0), some (vR 7 0 0), some (vR 9 0 0), some (vI (nI i)), some (vI r), some (vI b), none, none]) (st2 := [vR 7 0 0]) (m2 := m4) rfl ?_
  refine lw_call hZ (M2 := MX5_thrown) [] (rest := []) (r_X5_thrown m4) (sub_at sb_ask rfl) rfl rfl rfl rfl rfl ?_
  refine lw_c hZ sb_ask 2 (pc2 := if m4.1 7 0 0 5 = r then 212 else 210) (L2 := [some (vR 10 0 0), some (vR 3 0 0), some (vR 7 0 0), some (vR 9 0 0), some (vI (nI i)), some (vI r), some (vI b), none, none]) (st2 := []) (m2 := m4) rfl ?_
  refine lw_t ht ?_
  have fin : LW Z n 229 [some (vR 10 0 0), some (vR 3 0 0), some (vR 7 0 0), some (vR 9 0 0), some (vI (nI i)), some (vI r), some (vI b), none, none] [] m4 := by
    refine lw_c hZ sb_ask 1 (pc2 := 1522) (L2 := [some (vR 10 0 0), some (vR 3 0 0), some (vR 7 0 0), some (vR 9 0 0), some (vI (nI i)), some (vI r), some (vI b), none, none]) (st2 := []) (m2 := m4) rfl ?_
    exact lc_end hZ (kk m4 s2 l2 hW)
  refine lw_c hZ sb_ask 2 (pc2 := if ¬ r = 0 then 229 else 217) (L2 := [some (vR 10 0 0), some (vR 3 0 0), some (vR 7 0 0), some (vR 9 0 0), some (vI (nI i)), some (vI r), some (vI b), none, none]) (st2 := []) (m2 := m4) rfl ?_
  by_cases hk : r = 0
  · refine lw_f (fun q => q hk) ?_
    refine lw_c hZ sb_ask 7 (pc2 := if lg_cmp (m4.2 9 0 0 0) b.toInt64 = 0 then 229 else 227) (L2 := [some (vR 10 0 0), some (vR 3 0 0), some (vR 7 0 0), some (vR 9 0 0), some (vI (nI i)), some (vI r), some (vI b), none, none]) (st2 := []) (m2 := m4) rfl ?_
    refine lw_t (by rw [h0 hk]; exact lg_same _) fin
  · exact lw_t hk fin
def T_release : List (Nat × Instr × Nat) := [(232, .aload_n 1, 1), (233, .aload_n 0, 1), (234, .iload 4, 2), (236, .iconst 1, 1), (237, .iadd, 1), (238, .iaload, 1), (239, .aload_n 0, 1), (240, .iload 4, 2), (242, .iconst 2, 1), (243, .iadd, 1), (244, .iaload, 1), (245, .aload_n 3, 1), (246, .invokestatic 93, 3), (249, .istore 5, 2), (251, .aload_n 2, 1), (252, .aload_n 0, 1), (253, .iload 4, 2), (255, .iconst 1, 1), (256, .iadd, 1), (257, .iaload, 1), (258, .aload_n 0, 1), (259, .iload 4, 2), (261, .iconst 2, 1), (262, .iadd, 1), (263, .iaload, 1), (264, .invokevirtual 96, 3), (267, .istore 6, 2), (269, .aload_n 2, 1), (270, .invokevirtual 90, 3), (273, .iload 5, 2), (275, .if_icmp .eq 5, 3), (278, .iconst 0, 1), (279, .ireturn, 1), (280, .iload 5, 2), (282, .ifCond .ne 15, 3), (285, .aload_n 3, 1), (286, .iconst 0, 1), (287, .laload, 1), (288, .iload 6, 2), (290, .i2l, 1), (291, .lcmp, 1), (292, .ifCond .eq 5, 3), (295, .iconst 0, 1), (296, .ireturn, 1), (297, .goto 1225, 3)]
set_option maxRecDepth 100000 in
theorem sb_release : subB T_release = true := by decide +kernel
set_option maxRecDepth 100000 in
theorem wl_release : wlG 93 ML_release (hhO 10 hs_release) = true := by decide +kernel
theorem lc_release (hZ : LOK Z) (hdcL : ∀ M ∈ WL, dcG M) {i s len K : Nat} (hi : i + 5 ≤ zL9 Z) (H : WR m m s len K) (kk : ∀ m4 s2 l2, WR m4 m4 s2 l2 (K + 20) → LW Z n 23 (LLi (i + 5)) [] m4) : LW Z (n + 1) 232 (LLi i) [] m := by
  obtain ⟨b, m4, s2, l2, hr, hW, ht, h0⟩ := st_release H (zxs Z (i + 1)) (zxs Z (i + 2))
  show LW Z (n + 1) 232 [some (vR 10 0 0), some (vR 3 0 0), some (vR 7 0 0), some (vR 9 0 0), some (vI (nI i)), none, none, none, none] [] m
  refine lw_c hZ sb_release 5 (pc2 := 238) (L2 := [some (vR 10 0 0), some (vR 3 0 0), some (vR 7 0 0), some (vR 9 0 0), some (vI (nI i)), none, none, none, none]) (st2 := [vI (nI i + nI 1), vR 10 0 0, vR 3 0 0]) (m2 := m) rfl ?_
  refine lw_s hZ sb_release (i + 1) (nI_add i 1) rfl (by omega) ?_
  refine lw_c hZ sb_release 4 (pc2 := 244) (L2 := [some (vR 10 0 0), some (vR 3 0 0), some (vR 7 0 0), some (vR 9 0 0), some (vI (nI i)), none, none, none, none]) (st2 := [vI (nI i + nI 2), vR 10 0 0, vI (zxs Z (i + 1)), vR 3 0 0]) (m2 := m) rfl ?_
  refine lw_s hZ sb_release (i + 2) (nI_add i 2) rfl (by omega) ?_
  refine lw_c hZ sb_release 1 (pc2 := 246) (L2 := [some (vR 10 0 0), some (vR 3 0 0), some (vR 7 0 0), some (vR 9 0 0), some (vI (nI i)), none, none, none, none]) (st2 := [vR 9 0 0, vI (zxs Z (i + 2)), vI (zxs Z (i + 1)), vR 3 0 0]) (m2 := m) rfl ?_
  refine lw_wrap hZ (M := ML_release) (x := 93) (as := [vR 3 0 0, vI (zxs Z (i + 1)), vI (zxs Z (i + 2)), vR 9 0 0]) wl_release ?_ rfl (by decide) (fun hD => mw_release hZ.1 hZ.2.1 hZ.2.2.1 hZ.2.2.2.1 (hdcL _ (List.mem_of_getElem? (i := 1) rfl)) hD (zxs Z (i + 1)) (zxs Z (i + 2))) (sub_at sb_release rfl) rfl ?_
  · intro u hu
    simp only [List.mem_cons, List.not_mem_nil, or_false] at hu
    rcases hu with rfl | rfl | rfl | rfl <;> rfl
  generalize (wo (e3 1 0 2) (o_X4_release m (zxs Z (i + 1)) (zxs Z (i + 2))) (w_X4_release m (zxs Z (i + 1)) (zxs Z (i + 2)))) = W at *
  obtain ⟨r, m3⟩ := W
  dsimp only at hr ht h0 ⊢
  refine lw_c hZ sb_release 6 (pc2 := 257) (L2 := [some (vR 10 0 0), some (vR 3 0 0), some (vR 7 0 0), some (vR 9 0 0), some (vI (nI i)), some (vI r), none, none, none]) (st2 := [vI (nI i + nI 1), vR 10 0 0, vR 7 0 0]) (m2 := m3) rfl ?_
  refine lw_s hZ sb_release (i + 1) (nI_add i 1) rfl (by omega) ?_
  refine lw_c hZ sb_release 4 (pc2 := 263) (L2 := [some (vR 10 0 0), some (vR 3 0 0), some (vR 7 0 0), some (vR 9 0 0), some (vI (nI i)), some (vI r), none, none, none]) (st2 := [vI (nI i + nI 2), vR 10 0 0, vI (zxs Z (i + 1)), vR 7 0 0]) (m2 := m3) rfl ?_
  refine lw_s hZ sb_release (i + 2) (nI_add i 2) rfl (by omega) ?_
  refine lw_call hZ (M2 := MX5_release) [vI (zxs Z (i + 1)), vI (zxs Z (i + 2))] (rest := []) hr (sub_at sb_release rfl) rfl rfl rfl rfl rfl ?_
  refine lw_c hZ sb_release 2 (pc2 := 270) (L2 := [some (vR 10 0 0), some (vR 3 0 0), some (vR 7 0 0), some (vR 9 0 0), some (vI (nI i)), some (vI r), some (vI b), none, none]) (st2 := [vR 7 0 0]) (m2 := m4) rfl ?_
  refine lw_call hZ (M2 := MX5_thrown) [] (rest := []) (r_X5_thrown m4) (sub_at sb_release rfl) rfl rfl rfl rfl rfl ?_
  refine lw_c hZ sb_release 2 (pc2 := if m4.1 7 0 0 5 = r then 280 else 278) (L2 := [some (vR 10 0 0), some (vR 3 0 0), some (vR 7 0 0), some (vR 9 0 0), some (vI (nI i)), some (vI r), some (vI b), none, none]) (st2 := []) (m2 := m4) rfl ?_
  refine lw_t ht ?_
  have fin : LW Z n 297 [some (vR 10 0 0), some (vR 3 0 0), some (vR 7 0 0), some (vR 9 0 0), some (vI (nI i)), some (vI r), some (vI b), none, none] [] m4 := by
    refine lw_c hZ sb_release 1 (pc2 := 1522) (L2 := [some (vR 10 0 0), some (vR 3 0 0), some (vR 7 0 0), some (vR 9 0 0), some (vI (nI i)), some (vI r), some (vI b), none, none]) (st2 := []) (m2 := m4) rfl ?_
    exact lc_end hZ (kk m4 s2 l2 hW)
  refine lw_c hZ sb_release 2 (pc2 := if ¬ r = 0 then 297 else 285) (L2 := [some (vR 10 0 0), some (vR 3 0 0), some (vR 7 0 0), some (vR 9 0 0), some (vI (nI i)), some (vI r), some (vI b), none, none]) (st2 := []) (m2 := m4) rfl ?_
  by_cases hk : r = 0
  · refine lw_f (fun q => q hk) ?_
    refine lw_c hZ sb_release 7 (pc2 := if lg_cmp (m4.2 9 0 0 0) b.toInt64 = 0 then 297 else 295) (L2 := [some (vR 10 0 0), some (vR 3 0 0), some (vR 7 0 0), some (vR 9 0 0), some (vI (nI i)), some (vI r), some (vI b), none, none]) (st2 := []) (m2 := m4) rfl ?_
    refine lw_t (by rw [h0 hk]; exact lg_same _) fin
  · exact lw_t hk fin
def T_giveUp : List (Nat × Instr × Nat) := [(300, .aload_n 1, 1), (301, .aload_n 0, 1), (302, .iload 4, 2), (304, .iconst 1, 1), (305, .iadd, 1), (306, .iaload, 1), (307, .aload_n 3, 1), (308, .invokestatic 97, 3), (311, .istore 5, 2), (313, .aload_n 2, 1), (314, .aload_n 0, 1), (315, .iload 4, 2), (317, .iconst 1, 1), (318, .iadd, 1), (319, .iaload, 1), (320, .invokevirtual 100, 3), (323, .istore 6, 2), (325, .aload_n 2, 1), (326, .invokevirtual 90, 3), (329, .iload 5, 2), (331, .if_icmp .eq 5, 3), (334, .iconst 0, 1), (335, .ireturn, 1), (336, .iload 5, 2), (338, .ifCond .ne 15, 3), (341, .aload_n 3, 1), (342, .iconst 0, 1), (343, .laload, 1), (344, .iload 6, 2), (346, .i2l, 1), (347, .lcmp, 1), (348, .ifCond .eq 5, 3), (351, .iconst 0, 1), (352, .ireturn, 1), (353, .goto 1169, 3)]
set_option maxRecDepth 100000 in
theorem sb_giveUp : subB T_giveUp = true := by decide +kernel
set_option maxRecDepth 100000 in
theorem wl_giveUp : wlG 97 ML_giveUp (hhO 9 hs_giveUp) = true := by decide +kernel
theorem lc_giveUp (hZ : LOK Z) (hdcL : ∀ M ∈ WL, dcG M) {i s len K : Nat} (hi : i + 5 ≤ zL9 Z) (H : WR m m s len K) (kk : ∀ m4 s2 l2, WR m4 m4 s2 l2 (K + 20) → LW Z n 23 (LLi (i + 5)) [] m4) : LW Z (n + 1) 300 (LLi i) [] m := by
  obtain ⟨b, m4, s2, l2, hr, hW, ht, h0⟩ := st_giveUp H (zxs Z (i + 1))
  show LW Z (n + 1) 300 [some (vR 10 0 0), some (vR 3 0 0), some (vR 7 0 0), some (vR 9 0 0), some (vI (nI i)), none, none, none, none] [] m
  refine lw_c hZ sb_giveUp 5 (pc2 := 306) (L2 := [some (vR 10 0 0), some (vR 3 0 0), some (vR 7 0 0), some (vR 9 0 0), some (vI (nI i)), none, none, none, none]) (st2 := [vI (nI i + nI 1), vR 10 0 0, vR 3 0 0]) (m2 := m) rfl ?_
  refine lw_s hZ sb_giveUp (i + 1) (nI_add i 1) rfl (by omega) ?_
  refine lw_c hZ sb_giveUp 1 (pc2 := 308) (L2 := [some (vR 10 0 0), some (vR 3 0 0), some (vR 7 0 0), some (vR 9 0 0), some (vI (nI i)), none, none, none, none]) (st2 := [vR 9 0 0, vI (zxs Z (i + 1)), vR 3 0 0]) (m2 := m) rfl ?_
  refine lw_wrap hZ (M := ML_giveUp) (x := 97) (as := [vR 3 0 0, vI (zxs Z (i + 1)), vR 9 0 0]) wl_giveUp ?_ rfl (by decide) (fun hD => mw_giveUp hZ.1 hZ.2.1 hZ.2.2.1 hZ.2.2.2.1 (hdcL _ (List.mem_of_getElem? (i := 2) rfl)) hD (zxs Z (i + 1))) (sub_at sb_giveUp rfl) rfl ?_
  · intro u hu
    simp only [List.mem_cons, List.not_mem_nil, or_false] at hu
    rcases hu with rfl | rfl | rfl <;> rfl
  generalize (wo (e3 1 0 2) (o_X4_giveUp m (zxs Z (i + 1))) (w_X4_giveUp m (zxs Z (i + 1)))) = W at *
  obtain ⟨r, m3⟩ := W
  dsimp only at hr ht h0 ⊢
  refine lw_c hZ sb_giveUp 6 (pc2 := 319) (L2 := [some (vR 10 0 0), some (vR 3 0 0), some (vR 7 0 0), some (vR 9 0 0), some (vI (nI i)), some (vI r), none, none, none]) (st2 := [vI (nI i + nI 1), vR 10 0 0, vR 7 0 0]) (m2 := m3) rfl ?_
  refine lw_s hZ sb_giveUp (i + 1) (nI_add i 1) rfl (by omega) ?_
  refine lw_call hZ (M2 := MX5_giveUp) [vI (zxs Z (i + 1))] (rest := []) hr (sub_at sb_giveUp rfl) rfl rfl rfl rfl rfl ?_
  refine lw_c hZ sb_giveUp 2 (pc2 := 326) (L2 := [some (vR 10 0 0), some (vR 3 0 0), some (vR 7 0 0), some (vR 9 0 0), some (vI (nI i)), some (vI r), some (vI b), none, none]) (st2 := [vR 7 0 0]) (m2 := m4) rfl ?_
  refine lw_call hZ (M2 := MX5_thrown) [] (rest := []) (r_X5_thrown m4) (sub_at sb_giveUp rfl) rfl rfl rfl rfl rfl ?_
  refine lw_c hZ sb_giveUp 2 (pc2 := if m4.1 7 0 0 5 = r then 336 else 334) (L2 := [some (vR 10 0 0), some (vR 3 0 0), some (vR 7 0 0), some (vR 9 0 0), some (vI (nI i)), some (vI r), some (vI b), none, none]) (st2 := []) (m2 := m4) rfl ?_
  refine lw_t ht ?_
  have fin : LW Z n 353 [some (vR 10 0 0), some (vR 3 0 0), some (vR 7 0 0), some (vR 9 0 0), some (vI (nI i)), some (vI r), some (vI b), none, none] [] m4 := by
    refine lw_c hZ sb_giveUp 1 (pc2 := 1522) (L2 := [some (vR 10 0 0), some (vR 3 0 0), some (vR 7 0 0), some (vR 9 0 0), some (vI (nI i)), some (vI r), some (vI b), none, none]) (st2 := []) (m2 := m4) rfl ?_
    exact lc_end hZ (kk m4 s2 l2 hW)
  refine lw_c hZ sb_giveUp 2 (pc2 := if ¬ r = 0 then 353 else 341) (L2 := [some (vR 10 0 0), some (vR 3 0 0), some (vR 7 0 0), some (vR 9 0 0), some (vI (nI i)), some (vI r), some (vI b), none, none]) (st2 := []) (m2 := m4) rfl ?_
  by_cases hk : r = 0
  · refine lw_f (fun q => q hk) ?_
    refine lw_c hZ sb_giveUp 7 (pc2 := if lg_cmp (m4.2 9 0 0 0) b.toInt64 = 0 then 353 else 351) (L2 := [some (vR 10 0 0), some (vR 3 0 0), some (vR 7 0 0), some (vR 9 0 0), some (vI (nI i)), some (vI r), some (vI b), none, none]) (st2 := []) (m2 := m4) rfl ?_
    refine lw_t (by rw [h0 hk]; exact lg_same _) fin
  · exact lw_t hk fin
def T_handOn : List (Nat × Instr × Nat) := [(356, .aload_n 1, 1), (357, .aload_n 0, 1), (358, .iload 4, 2), (360, .iconst 1, 1), (361, .iadd, 1), (362, .iaload, 1), (363, .aload_n 0, 1), (364, .iload 4, 2), (366, .iconst 2, 1), (367, .iadd, 1), (368, .iaload, 1), (369, .aload_n 0, 1), (370, .iload 4, 2), (372, .iconst 3, 1), (373, .iadd, 1), (374, .iaload, 1), (375, .aload_n 3, 1), (376, .invokestatic 101, 3), (379, .istore 5, 2), (381, .aload_n 2, 1), (382, .aload_n 0, 1), (383, .iload 4, 2), (385, .iconst 1, 1), (386, .iadd, 1), (387, .iaload, 1), (388, .aload_n 0, 1), (389, .iload 4, 2), (391, .iconst 2, 1), (392, .iadd, 1), (393, .iaload, 1), (394, .aload_n 0, 1), (395, .iload 4, 2), (397, .iconst 3, 1), (398, .iadd, 1), (399, .iaload, 1), (400, .invokevirtual 103, 3), (403, .istore 6, 2), (405, .aload_n 2, 1), (406, .invokevirtual 90, 3), (409, .iload 5, 2), (411, .if_icmp .eq 5, 3), (414, .iconst 0, 1), (415, .ireturn, 1), (416, .iload 5, 2), (418, .ifCond .ne 15, 3), (421, .aload_n 3, 1), (422, .iconst 0, 1), (423, .laload, 1), (424, .iload 6, 2), (426, .i2l, 1), (427, .lcmp, 1), (428, .ifCond .eq 5, 3), (431, .iconst 0, 1), (432, .ireturn, 1), (433, .goto 1089, 3)]
set_option maxRecDepth 100000 in
theorem sb_handOn : subB T_handOn = true := by decide +kernel
set_option maxRecDepth 100000 in
theorem wl_handOn : wlG 101 ML_handOn (hhO 12 hs_handOn) = true := by decide +kernel
theorem lc_handOn (hZ : LOK Z) (hdcL : ∀ M ∈ WL, dcG M) {i s len K : Nat} (hi : i + 5 ≤ zL9 Z) (H : WR m m s len K) (kk : ∀ m4 s2 l2, WR m4 m4 s2 l2 (K + 20) → LW Z n 23 (LLi (i + 5)) [] m4) : LW Z (n + 1) 356 (LLi i) [] m := by
  obtain ⟨b, m4, s2, l2, hr, hW, ht, h0⟩ := st_handOn H (zxs Z (i + 1)) (zxs Z (i + 2)) (zxs Z (i + 3))
  show LW Z (n + 1) 356 [some (vR 10 0 0), some (vR 3 0 0), some (vR 7 0 0), some (vR 9 0 0), some (vI (nI i)), none, none, none, none] [] m
  refine lw_c hZ sb_handOn 5 (pc2 := 362) (L2 := [some (vR 10 0 0), some (vR 3 0 0), some (vR 7 0 0), some (vR 9 0 0), some (vI (nI i)), none, none, none, none]) (st2 := [vI (nI i + nI 1), vR 10 0 0, vR 3 0 0]) (m2 := m) rfl ?_
  refine lw_s hZ sb_handOn (i + 1) (nI_add i 1) rfl (by omega) ?_
  refine lw_c hZ sb_handOn 4 (pc2 := 368) (L2 := [some (vR 10 0 0), some (vR 3 0 0), some (vR 7 0 0), some (vR 9 0 0), some (vI (nI i)), none, none, none, none]) (st2 := [vI (nI i + nI 2), vR 10 0 0, vI (zxs Z (i + 1)), vR 3 0 0]) (m2 := m) rfl ?_
  refine lw_s hZ sb_handOn (i + 2) (nI_add i 2) rfl (by omega) ?_
  refine lw_c hZ sb_handOn 4 (pc2 := 374) (L2 := [some (vR 10 0 0), some (vR 3 0 0), some (vR 7 0 0), some (vR 9 0 0), some (vI (nI i)), none, none, none, none]) (st2 := [vI (nI i + nI 3), vR 10 0 0, vI (zxs Z (i + 2)), vI (zxs Z (i + 1)), vR 3 0 0]) (m2 := m) rfl ?_
  refine lw_s hZ sb_handOn (i + 3) (nI_add i 3) rfl (by omega) ?_
  refine lw_c hZ sb_handOn 1 (pc2 := 376) (L2 := [some (vR 10 0 0), some (vR 3 0 0), some (vR 7 0 0), some (vR 9 0 0), some (vI (nI i)), none, none, none, none]) (st2 := [vR 9 0 0, vI (zxs Z (i + 3)), vI (zxs Z (i + 2)), vI (zxs Z (i + 1)), vR 3 0 0]) (m2 := m) rfl ?_
  refine lw_wrap hZ (M := ML_handOn) (x := 101) (as := [vR 3 0 0, vI (zxs Z (i + 1)), vI (zxs Z (i + 2)), vI (zxs Z (i + 3)), vR 9 0 0]) wl_handOn ?_ rfl (by decide) (fun hD => mw_handOn hZ.1 hZ.2.1 hZ.2.2.1 hZ.2.2.2.1 (hdcL _ (List.mem_of_getElem? (i := 3) rfl)) hD (zxs Z (i + 1)) (zxs Z (i + 2)) (zxs Z (i + 3))) (sub_at sb_handOn rfl) rfl ?_
  · intro u hu
    simp only [List.mem_cons, List.not_mem_nil, or_false] at hu
    rcases hu with rfl | rfl | rfl | rfl | rfl <;> rfl
  generalize (wo (e3 1 0 2) (o_X4_handOn m (zxs Z (i + 1)) (zxs Z (i + 2)) (zxs Z (i + 3))) (w_X4_handOn m (zxs Z (i + 1)) (zxs Z (i + 2)) (zxs Z (i + 3)))) = W at *
  obtain ⟨r, m3⟩ := W
  dsimp only at hr ht h0 ⊢
  refine lw_c hZ sb_handOn 6 (pc2 := 387) (L2 := [some (vR 10 0 0), some (vR 3 0 0), some (vR 7 0 0), some (vR 9 0 0), some (vI (nI i)), some (vI r), none, none, none]) (st2 := [vI (nI i + nI 1), vR 10 0 0, vR 7 0 0]) (m2 := m3) rfl ?_
  refine lw_s hZ sb_handOn (i + 1) (nI_add i 1) rfl (by omega) ?_
  refine lw_c hZ sb_handOn 4 (pc2 := 393) (L2 := [some (vR 10 0 0), some (vR 3 0 0), some (vR 7 0 0), some (vR 9 0 0), some (vI (nI i)), some (vI r), none, none, none]) (st2 := [vI (nI i + nI 2), vR 10 0 0, vI (zxs Z (i + 1)), vR 7 0 0]) (m2 := m3) rfl ?_
  refine lw_s hZ sb_handOn (i + 2) (nI_add i 2) rfl (by omega) ?_
  refine lw_c hZ sb_handOn 4 (pc2 := 399) (L2 := [some (vR 10 0 0), some (vR 3 0 0), some (vR 7 0 0), some (vR 9 0 0), some (vI (nI i)), some (vI r), none, none, none]) (st2 := [vI (nI i + nI 3), vR 10 0 0, vI (zxs Z (i + 2)), vI (zxs Z (i + 1)), vR 7 0 0]) (m2 := m3) rfl ?_
  refine lw_s hZ sb_handOn (i + 3) (nI_add i 3) rfl (by omega) ?_
  refine lw_call hZ (M2 := MX5_handOn) [vI (zxs Z (i + 1)), vI (zxs Z (i + 2)), vI (zxs Z (i + 3))] (rest := []) hr (sub_at sb_handOn rfl) rfl rfl rfl rfl rfl ?_
  refine lw_c hZ sb_handOn 2 (pc2 := 406) (L2 := [some (vR 10 0 0), some (vR 3 0 0), some (vR 7 0 0), some (vR 9 0 0), some (vI (nI i)), some (vI r), some (vI b), none, none]) (st2 := [vR 7 0 0]) (m2 := m4) rfl ?_
  refine lw_call hZ (M2 := MX5_thrown) [] (rest := []) (r_X5_thrown m4) (sub_at sb_handOn rfl) rfl rfl rfl rfl rfl ?_
  refine lw_c hZ sb_handOn 2 (pc2 := if m4.1 7 0 0 5 = r then 416 else 414) (L2 := [some (vR 10 0 0), some (vR 3 0 0), some (vR 7 0 0), some (vR 9 0 0), some (vI (nI i)), some (vI r), some (vI b), none, none]) (st2 := []) (m2 := m4) rfl ?_
  refine lw_t ht ?_
  have fin : LW Z n 433 [some (vR 10 0 0), some (vR 3 0 0), some (vR 7 0 0), some (vR 9 0 0), some (vI (nI i)), some (vI r), some (vI b), none, none] [] m4 := by
    refine lw_c hZ sb_handOn 1 (pc2 := 1522) (L2 := [some (vR 10 0 0), some (vR 3 0 0), some (vR 7 0 0), some (vR 9 0 0), some (vI (nI i)), some (vI r), some (vI b), none, none]) (st2 := []) (m2 := m4) rfl ?_
    exact lc_end hZ (kk m4 s2 l2 hW)
  refine lw_c hZ sb_handOn 2 (pc2 := if ¬ r = 0 then 433 else 421) (L2 := [some (vR 10 0 0), some (vR 3 0 0), some (vR 7 0 0), some (vR 9 0 0), some (vI (nI i)), some (vI r), some (vI b), none, none]) (st2 := []) (m2 := m4) rfl ?_
  by_cases hk : r = 0
  · refine lw_f (fun q => q hk) ?_
    refine lw_c hZ sb_handOn 7 (pc2 := if lg_cmp (m4.2 9 0 0 0) b.toInt64 = 0 then 433 else 431) (L2 := [some (vR 10 0 0), some (vR 3 0 0), some (vR 7 0 0), some (vR 9 0 0), some (vI (nI i)), some (vI r), some (vI b), none, none]) (st2 := []) (m2 := m4) rfl ?_
    refine lw_t (by rw [h0 hk]; exact lg_same _) fin
  · exact lw_t hk fin
def T_pass : List (Nat × Instr × Nat) := [(436, .aload_n 1, 1), (437, .aload_n 0, 1), (438, .iload 4, 2), (440, .iconst 1, 1), (441, .iadd, 1), (442, .iaload, 1), (443, .aload_n 3, 1), (444, .invokestatic 104, 3), (447, .istore 5, 2), (449, .aload_n 2, 1), (450, .aload_n 0, 1), (451, .iload 4, 2), (453, .iconst 1, 1), (454, .iadd, 1), (455, .iaload, 1), (456, .invokevirtual 106, 3), (459, .istore 6, 2), (461, .aload_n 2, 1), (462, .invokevirtual 90, 3), (465, .iload 5, 2), (467, .if_icmp .eq 5, 3), (470, .iconst 0, 1), (471, .ireturn, 1), (472, .iload 5, 2), (474, .ifCond .ne 15, 3), (477, .aload_n 3, 1), (478, .iconst 0, 1), (479, .laload, 1), (480, .iload 6, 2), (482, .i2l, 1), (483, .lcmp, 1), (484, .ifCond .eq 5, 3), (487, .iconst 0, 1), (488, .ireturn, 1), (489, .goto 1033, 3)]
set_option maxRecDepth 100000 in
theorem sb_pass : subB T_pass = true := by decide +kernel
set_option maxRecDepth 100000 in
theorem wl_pass : wlG 104 ML_pass (hhO 9 hs_pass) = true := by decide +kernel
theorem lc_pass (hZ : LOK Z) (hdcL : ∀ M ∈ WL, dcG M) {i s len K : Nat} (hi : i + 5 ≤ zL9 Z) (H : WR m m s len K) (kk : ∀ m4 s2 l2, WR m4 m4 s2 l2 (K + 20) → LW Z n 23 (LLi (i + 5)) [] m4) : LW Z (n + 1) 436 (LLi i) [] m := by
  obtain ⟨b, m4, s2, l2, hr, hW, ht, h0⟩ := st_pass H (zxs Z (i + 1))
  show LW Z (n + 1) 436 [some (vR 10 0 0), some (vR 3 0 0), some (vR 7 0 0), some (vR 9 0 0), some (vI (nI i)), none, none, none, none] [] m
  refine lw_c hZ sb_pass 5 (pc2 := 442) (L2 := [some (vR 10 0 0), some (vR 3 0 0), some (vR 7 0 0), some (vR 9 0 0), some (vI (nI i)), none, none, none, none]) (st2 := [vI (nI i + nI 1), vR 10 0 0, vR 3 0 0]) (m2 := m) rfl ?_
  refine lw_s hZ sb_pass (i + 1) (nI_add i 1) rfl (by omega) ?_
  refine lw_c hZ sb_pass 1 (pc2 := 444) (L2 := [some (vR 10 0 0), some (vR 3 0 0), some (vR 7 0 0), some (vR 9 0 0), some (vI (nI i)), none, none, none, none]) (st2 := [vR 9 0 0, vI (zxs Z (i + 1)), vR 3 0 0]) (m2 := m) rfl ?_
  refine lw_wrap hZ (M := ML_pass) (x := 104) (as := [vR 3 0 0, vI (zxs Z (i + 1)), vR 9 0 0]) wl_pass ?_ rfl (by decide) (fun hD => mw_pass hZ.1 hZ.2.1 hZ.2.2.1 hZ.2.2.2.1 (hdcL _ (List.mem_of_getElem? (i := 4) rfl)) hD (zxs Z (i + 1))) (sub_at sb_pass rfl) rfl ?_
  · intro u hu
    simp only [List.mem_cons, List.not_mem_nil, or_false] at hu
    rcases hu with rfl | rfl | rfl <;> rfl
  generalize (wo (e3 0 1 0) (o_X4_pass m (zxs Z (i + 1))) (w_X4_pass m (zxs Z (i + 1)))) = W at *
  obtain ⟨r, m3⟩ := W
  dsimp only at hr ht h0 ⊢
  refine lw_c hZ sb_pass 6 (pc2 := 455) (L2 := [some (vR 10 0 0), some (vR 3 0 0), some (vR 7 0 0), some (vR 9 0 0), some (vI (nI i)), some (vI r), none, none, none]) (st2 := [vI (nI i + nI 1), vR 10 0 0, vR 7 0 0]) (m2 := m3) rfl ?_
  refine lw_s hZ sb_pass (i + 1) (nI_add i 1) rfl (by omega) ?_
  refine lw_call hZ (M2 := MX5_pass) [vI (zxs Z (i + 1))] (rest := []) hr (sub_at sb_pass rfl) rfl rfl rfl rfl rfl ?_
  refine lw_c hZ sb_pass 2 (pc2 := 462) (L2 := [some (vR 10 0 0), some (vR 3 0 0), some (vR 7 0 0), some (vR 9 0 0), some (vI (nI i)), some (vI r), some (vI b), none, none]) (st2 := [vR 7 0 0]) (m2 := m4) rfl ?_
  refine lw_call hZ (M2 := MX5_thrown) [] (rest := []) (r_X5_thrown m4) (sub_at sb_pass rfl) rfl rfl rfl rfl rfl ?_
  refine lw_c hZ sb_pass 2 (pc2 := if m4.1 7 0 0 5 = r then 472 else 470) (L2 := [some (vR 10 0 0), some (vR 3 0 0), some (vR 7 0 0), some (vR 9 0 0), some (vI (nI i)), some (vI r), some (vI b), none, none]) (st2 := []) (m2 := m4) rfl ?_
  refine lw_t ht ?_
  have fin : LW Z n 489 [some (vR 10 0 0), some (vR 3 0 0), some (vR 7 0 0), some (vR 9 0 0), some (vI (nI i)), some (vI r), some (vI b), none, none] [] m4 := by
    refine lw_c hZ sb_pass 1 (pc2 := 1522) (L2 := [some (vR 10 0 0), some (vR 3 0 0), some (vR 7 0 0), some (vR 9 0 0), some (vI (nI i)), some (vI r), some (vI b), none, none]) (st2 := []) (m2 := m4) rfl ?_
    exact lc_end hZ (kk m4 s2 l2 hW)
  refine lw_c hZ sb_pass 2 (pc2 := if ¬ r = 0 then 489 else 477) (L2 := [some (vR 10 0 0), some (vR 3 0 0), some (vR 7 0 0), some (vR 9 0 0), some (vI (nI i)), some (vI r), some (vI b), none, none]) (st2 := []) (m2 := m4) rfl ?_
  by_cases hk : r = 0
  · refine lw_f (fun q => q hk) ?_
    refine lw_c hZ sb_pass 7 (pc2 := if lg_cmp (m4.2 9 0 0 0) b.toInt64 = 0 then 489 else 487) (L2 := [some (vR 10 0 0), some (vR 3 0 0), some (vR 7 0 0), some (vR 9 0 0), some (vI (nI i)), some (vI r), some (vI b), none, none]) (st2 := []) (m2 := m4) rfl ?_
    refine lw_t (by rw [h0 hk]; exact lg_same _) fin
  · exact lw_t hk fin
def T_cool : List (Nat × Instr × Nat) := [(492, .aload_n 1, 1), (493, .aload_n 0, 1), (494, .iload 4, 2), (496, .iconst 1, 1), (497, .iadd, 1), (498, .iaload, 1), (499, .aload_n 3, 1), (500, .invokestatic 107, 3), (503, .istore 5, 2), (505, .aload_n 2, 1), (506, .aload_n 0, 1), (507, .iload 4, 2), (509, .iconst 1, 1), (510, .iadd, 1), (511, .iaload, 1), (512, .invokevirtual 109, 3), (515, .istore 6, 2), (517, .aload_n 2, 1), (518, .invokevirtual 90, 3), (521, .iload 5, 2), (523, .if_icmp .eq 5, 3), (526, .iconst 0, 1), (527, .ireturn, 1), (528, .iload 5, 2), (530, .ifCond .ne 15, 3), (533, .aload_n 3, 1), (534, .iconst 0, 1), (535, .laload, 1), (536, .iload 6, 2), (538, .i2l, 1), (539, .lcmp, 1), (540, .ifCond .eq 5, 3), (543, .iconst 0, 1), (544, .ireturn, 1), (545, .goto 977, 3)]
set_option maxRecDepth 100000 in
theorem sb_cool : subB T_cool = true := by decide +kernel
set_option maxRecDepth 100000 in
theorem wl_cool : wlG 107 ML_cool (hhO 9 hs_cool) = true := by decide +kernel
theorem lc_cool (hZ : LOK Z) (hdcL : ∀ M ∈ WL, dcG M) {i s len K : Nat} (hi : i + 5 ≤ zL9 Z) (H : WR m m s len K) (kk : ∀ m4 s2 l2, WR m4 m4 s2 l2 (K + 20) → LW Z n 23 (LLi (i + 5)) [] m4) : LW Z (n + 1) 492 (LLi i) [] m := by
  obtain ⟨b, m4, s2, l2, hr, hW, ht, h0⟩ := st_cool H (zxs Z (i + 1))
  show LW Z (n + 1) 492 [some (vR 10 0 0), some (vR 3 0 0), some (vR 7 0 0), some (vR 9 0 0), some (vI (nI i)), none, none, none, none] [] m
  refine lw_c hZ sb_cool 5 (pc2 := 498) (L2 := [some (vR 10 0 0), some (vR 3 0 0), some (vR 7 0 0), some (vR 9 0 0), some (vI (nI i)), none, none, none, none]) (st2 := [vI (nI i + nI 1), vR 10 0 0, vR 3 0 0]) (m2 := m) rfl ?_
  refine lw_s hZ sb_cool (i + 1) (nI_add i 1) rfl (by omega) ?_
  refine lw_c hZ sb_cool 1 (pc2 := 500) (L2 := [some (vR 10 0 0), some (vR 3 0 0), some (vR 7 0 0), some (vR 9 0 0), some (vI (nI i)), none, none, none, none]) (st2 := [vR 9 0 0, vI (zxs Z (i + 1)), vR 3 0 0]) (m2 := m) rfl ?_
  refine lw_wrap hZ (M := ML_cool) (x := 107) (as := [vR 3 0 0, vI (zxs Z (i + 1)), vR 9 0 0]) wl_cool ?_ rfl (by decide) (fun hD => mw_cool hZ.1 hZ.2.1 hZ.2.2.1 hZ.2.2.2.1 (hdcL _ (List.mem_of_getElem? (i := 5) rfl)) hD (zxs Z (i + 1))) (sub_at sb_cool rfl) rfl ?_
  · intro u hu
    simp only [List.mem_cons, List.not_mem_nil, or_false] at hu
    rcases hu with rfl | rfl | rfl <;> rfl
  generalize (wo (e3 1 0 2) (o_X4_cool m (zxs Z (i + 1))) (w_X4_cool m (zxs Z (i + 1)))) = W at *
  obtain ⟨r, m3⟩ := W
  dsimp only at hr ht h0 ⊢
  refine lw_c hZ sb_cool 6 (pc2 := 511) (L2 := [some (vR 10 0 0), some (vR 3 0 0), some (vR 7 0 0), some (vR 9 0 0), some (vI (nI i)), some (vI r), none, none, none]) (st2 := [vI (nI i + nI 1), vR 10 0 0, vR 7 0 0]) (m2 := m3) rfl ?_
  refine lw_s hZ sb_cool (i + 1) (nI_add i 1) rfl (by omega) ?_
  refine lw_call hZ (M2 := MX5_cool) [vI (zxs Z (i + 1))] (rest := []) hr (sub_at sb_cool rfl) rfl rfl rfl rfl rfl ?_
  refine lw_c hZ sb_cool 2 (pc2 := 518) (L2 := [some (vR 10 0 0), some (vR 3 0 0), some (vR 7 0 0), some (vR 9 0 0), some (vI (nI i)), some (vI r), some (vI b), none, none]) (st2 := [vR 7 0 0]) (m2 := m4) rfl ?_
  refine lw_call hZ (M2 := MX5_thrown) [] (rest := []) (r_X5_thrown m4) (sub_at sb_cool rfl) rfl rfl rfl rfl rfl ?_
  refine lw_c hZ sb_cool 2 (pc2 := if m4.1 7 0 0 5 = r then 528 else 526) (L2 := [some (vR 10 0 0), some (vR 3 0 0), some (vR 7 0 0), some (vR 9 0 0), some (vI (nI i)), some (vI r), some (vI b), none, none]) (st2 := []) (m2 := m4) rfl ?_
  refine lw_t ht ?_
  have fin : LW Z n 545 [some (vR 10 0 0), some (vR 3 0 0), some (vR 7 0 0), some (vR 9 0 0), some (vI (nI i)), some (vI r), some (vI b), none, none] [] m4 := by
    refine lw_c hZ sb_cool 1 (pc2 := 1522) (L2 := [some (vR 10 0 0), some (vR 3 0 0), some (vR 7 0 0), some (vR 9 0 0), some (vI (nI i)), some (vI r), some (vI b), none, none]) (st2 := []) (m2 := m4) rfl ?_
    exact lc_end hZ (kk m4 s2 l2 hW)
  refine lw_c hZ sb_cool 2 (pc2 := if ¬ r = 0 then 545 else 533) (L2 := [some (vR 10 0 0), some (vR 3 0 0), some (vR 7 0 0), some (vR 9 0 0), some (vI (nI i)), some (vI r), some (vI b), none, none]) (st2 := []) (m2 := m4) rfl ?_
  by_cases hk : r = 0
  · refine lw_f (fun q => q hk) ?_
    refine lw_c hZ sb_cool 7 (pc2 := if lg_cmp (m4.2 9 0 0 0) b.toInt64 = 0 then 545 else 543) (L2 := [some (vR 10 0 0), some (vR 3 0 0), some (vR 7 0 0), some (vR 9 0 0), some (vI (nI i)), some (vI r), some (vI b), none, none]) (st2 := []) (m2 := m4) rfl ?_
    refine lw_t (by rw [h0 hk]; exact lg_same _) fin
  · exact lw_t hk fin
def T_set : List (Nat × Instr × Nat) := [(548, .aload_n 1, 1), (549, .aload_n 0, 1), (550, .iload 4, 2), (552, .iconst 1, 1), (553, .iadd, 1), (554, .iaload, 1), (555, .aload_n 0, 1), (556, .iload 4, 2), (558, .iconst 2, 1), (559, .iadd, 1), (560, .iaload, 1), (561, .aload_n 3, 1), (562, .invokestatic 110, 3), (565, .istore 5, 2), (567, .aload_n 2, 1), (568, .aload_n 0, 1), (569, .iload 4, 2), (571, .iconst 1, 1), (572, .iadd, 1), (573, .iaload, 1), (574, .aload_n 0, 1), (575, .iload 4, 2), (577, .iconst 2, 1), (578, .iadd, 1), (579, .iaload, 1), (580, .invokevirtual 112, 3), (583, .istore 6, 2), (585, .aload_n 2, 1), (586, .invokevirtual 90, 3), (589, .iload 5, 2), (591, .if_icmp .eq 5, 3), (594, .iconst 0, 1), (595, .ireturn, 1), (596, .iload 5, 2), (598, .ifCond .ne 15, 3), (601, .aload_n 3, 1), (602, .iconst 0, 1), (603, .laload, 1), (604, .iload 6, 2), (606, .i2l, 1), (607, .lcmp, 1), (608, .ifCond .eq 5, 3), (611, .iconst 0, 1), (612, .ireturn, 1), (613, .goto 909, 3)]
set_option maxRecDepth 100000 in
theorem sb_set : subB T_set = true := by decide +kernel
set_option maxRecDepth 100000 in
theorem wl_set : wlG 110 ML_set (hhO 10 hs_set) = true := by decide +kernel
theorem lc_set (hZ : LOK Z) (hdcL : ∀ M ∈ WL, dcG M) {i s len K : Nat} (hi : i + 5 ≤ zL9 Z) (H : WR m m s len K) (kk : ∀ m4 s2 l2, WR m4 m4 s2 l2 (K + 20) → LW Z n 23 (LLi (i + 5)) [] m4) : LW Z (n + 1) 548 (LLi i) [] m := by
  obtain ⟨b, m4, s2, l2, hr, hW, ht, h0⟩ := st_set H (zxs Z (i + 1)) (zxs Z (i + 2))
  show LW Z (n + 1) 548 [some (vR 10 0 0), some (vR 3 0 0), some (vR 7 0 0), some (vR 9 0 0), some (vI (nI i)), none, none, none, none] [] m
  refine lw_c hZ sb_set 5 (pc2 := 554) (L2 := [some (vR 10 0 0), some (vR 3 0 0), some (vR 7 0 0), some (vR 9 0 0), some (vI (nI i)), none, none, none, none]) (st2 := [vI (nI i + nI 1), vR 10 0 0, vR 3 0 0]) (m2 := m) rfl ?_
  refine lw_s hZ sb_set (i + 1) (nI_add i 1) rfl (by omega) ?_
  refine lw_c hZ sb_set 4 (pc2 := 560) (L2 := [some (vR 10 0 0), some (vR 3 0 0), some (vR 7 0 0), some (vR 9 0 0), some (vI (nI i)), none, none, none, none]) (st2 := [vI (nI i + nI 2), vR 10 0 0, vI (zxs Z (i + 1)), vR 3 0 0]) (m2 := m) rfl ?_
  refine lw_s hZ sb_set (i + 2) (nI_add i 2) rfl (by omega) ?_
  refine lw_c hZ sb_set 1 (pc2 := 562) (L2 := [some (vR 10 0 0), some (vR 3 0 0), some (vR 7 0 0), some (vR 9 0 0), some (vI (nI i)), none, none, none, none]) (st2 := [vR 9 0 0, vI (zxs Z (i + 2)), vI (zxs Z (i + 1)), vR 3 0 0]) (m2 := m) rfl ?_
  refine lw_wrap hZ (M := ML_set) (x := 110) (as := [vR 3 0 0, vI (zxs Z (i + 1)), vI (zxs Z (i + 2)), vR 9 0 0]) wl_set ?_ rfl (by decide) (fun hD => mw_set hZ.1 hZ.2.1 hZ.2.2.1 hZ.2.2.2.1 (hdcL _ (List.mem_of_getElem? (i := 6) rfl)) hD (zxs Z (i + 1)) (zxs Z (i + 2))) (sub_at sb_set rfl) rfl ?_
  · intro u hu
    simp only [List.mem_cons, List.not_mem_nil, or_false] at hu
    rcases hu with rfl | rfl | rfl | rfl <;> rfl
  generalize (wo (e3 1 2 0) (o_X4_set m (zxs Z (i + 1)) (zxs Z (i + 2))) (w_X4_set m (zxs Z (i + 1)) (zxs Z (i + 2)))) = W at *
  obtain ⟨r, m3⟩ := W
  dsimp only at hr ht h0 ⊢
  refine lw_c hZ sb_set 6 (pc2 := 573) (L2 := [some (vR 10 0 0), some (vR 3 0 0), some (vR 7 0 0), some (vR 9 0 0), some (vI (nI i)), some (vI r), none, none, none]) (st2 := [vI (nI i + nI 1), vR 10 0 0, vR 7 0 0]) (m2 := m3) rfl ?_
  refine lw_s hZ sb_set (i + 1) (nI_add i 1) rfl (by omega) ?_
  refine lw_c hZ sb_set 4 (pc2 := 579) (L2 := [some (vR 10 0 0), some (vR 3 0 0), some (vR 7 0 0), some (vR 9 0 0), some (vI (nI i)), some (vI r), none, none, none]) (st2 := [vI (nI i + nI 2), vR 10 0 0, vI (zxs Z (i + 1)), vR 7 0 0]) (m2 := m3) rfl ?_
  refine lw_s hZ sb_set (i + 2) (nI_add i 2) rfl (by omega) ?_
  refine lw_call hZ (M2 := MX5_set) [vI (zxs Z (i + 1)), vI (zxs Z (i + 2))] (rest := []) hr (sub_at sb_set rfl) rfl rfl rfl rfl rfl ?_
  refine lw_c hZ sb_set 2 (pc2 := 586) (L2 := [some (vR 10 0 0), some (vR 3 0 0), some (vR 7 0 0), some (vR 9 0 0), some (vI (nI i)), some (vI r), some (vI b), none, none]) (st2 := [vR 7 0 0]) (m2 := m4) rfl ?_
  refine lw_call hZ (M2 := MX5_thrown) [] (rest := []) (r_X5_thrown m4) (sub_at sb_set rfl) rfl rfl rfl rfl rfl ?_
  refine lw_c hZ sb_set 2 (pc2 := if m4.1 7 0 0 5 = r then 596 else 594) (L2 := [some (vR 10 0 0), some (vR 3 0 0), some (vR 7 0 0), some (vR 9 0 0), some (vI (nI i)), some (vI r), some (vI b), none, none]) (st2 := []) (m2 := m4) rfl ?_
  refine lw_t ht ?_
  have fin : LW Z n 613 [some (vR 10 0 0), some (vR 3 0 0), some (vR 7 0 0), some (vR 9 0 0), some (vI (nI i)), some (vI r), some (vI b), none, none] [] m4 := by
    refine lw_c hZ sb_set 1 (pc2 := 1522) (L2 := [some (vR 10 0 0), some (vR 3 0 0), some (vR 7 0 0), some (vR 9 0 0), some (vI (nI i)), some (vI r), some (vI b), none, none]) (st2 := []) (m2 := m4) rfl ?_
    exact lc_end hZ (kk m4 s2 l2 hW)
  refine lw_c hZ sb_set 2 (pc2 := if ¬ r = 0 then 613 else 601) (L2 := [some (vR 10 0 0), some (vR 3 0 0), some (vR 7 0 0), some (vR 9 0 0), some (vI (nI i)), some (vI r), some (vI b), none, none]) (st2 := []) (m2 := m4) rfl ?_
  by_cases hk : r = 0
  · refine lw_f (fun q => q hk) ?_
    refine lw_c hZ sb_set 7 (pc2 := if lg_cmp (m4.2 9 0 0 0) b.toInt64 = 0 then 613 else 611) (L2 := [some (vR 10 0 0), some (vR 3 0 0), some (vR 7 0 0), some (vR 9 0 0), some (vI (nI i)), some (vI r), some (vI b), none, none]) (st2 := []) (m2 := m4) rfl ?_
    refine lw_t (by rw [h0 hk]; exact lg_same _) fin
  · exact lw_t hk fin
def T_append : List (Nat × Instr × Nat) := [(616, .aload_n 1, 1), (617, .aload_n 0, 1), (618, .iload 4, 2), (620, .iconst 1, 1), (621, .iadd, 1), (622, .iaload, 1), (623, .aload_n 3, 1), (624, .invokestatic 113, 3), (627, .istore 5, 2), (629, .aload_n 2, 1), (630, .aload_n 0, 1), (631, .iload 4, 2), (633, .iconst 1, 1), (634, .iadd, 1), (635, .iaload, 1), (636, .invokevirtual 115, 3), (639, .istore 6, 2), (641, .aload_n 2, 1), (642, .invokevirtual 90, 3), (645, .iload 5, 2), (647, .if_icmp .eq 5, 3), (650, .iconst 0, 1), (651, .ireturn, 1), (652, .iload 5, 2), (654, .ifCond .ne 15, 3), (657, .aload_n 3, 1), (658, .iconst 0, 1), (659, .laload, 1), (660, .iload 6, 2), (662, .i2l, 1), (663, .lcmp, 1), (664, .ifCond .eq 5, 3), (667, .iconst 0, 1), (668, .ireturn, 1), (669, .goto 853, 3)]
set_option maxRecDepth 100000 in
theorem sb_append : subB T_append = true := by decide +kernel
set_option maxRecDepth 100000 in
theorem wl_append : wlG 113 ML_append (hhO 9 hs_append) = true := by decide +kernel
theorem lc_append (hZ : LOK Z) (hdcL : ∀ M ∈ WL, dcG M) {i s len K : Nat} (hi : i + 5 ≤ zL9 Z) (H : WR m m s len K) (kk : ∀ m4 s2 l2, WR m4 m4 s2 l2 (K + 20) → LW Z n 23 (LLi (i + 5)) [] m4) : LW Z (n + 1) 616 (LLi i) [] m := by
  obtain ⟨b, m4, s2, l2, hr, hW, ht, h0⟩ := st_append H (zxs Z (i + 1))
  show LW Z (n + 1) 616 [some (vR 10 0 0), some (vR 3 0 0), some (vR 7 0 0), some (vR 9 0 0), some (vI (nI i)), none, none, none, none] [] m
  refine lw_c hZ sb_append 5 (pc2 := 622) (L2 := [some (vR 10 0 0), some (vR 3 0 0), some (vR 7 0 0), some (vR 9 0 0), some (vI (nI i)), none, none, none, none]) (st2 := [vI (nI i + nI 1), vR 10 0 0, vR 3 0 0]) (m2 := m) rfl ?_
  refine lw_s hZ sb_append (i + 1) (nI_add i 1) rfl (by omega) ?_
  refine lw_c hZ sb_append 1 (pc2 := 624) (L2 := [some (vR 10 0 0), some (vR 3 0 0), some (vR 7 0 0), some (vR 9 0 0), some (vI (nI i)), none, none, none, none]) (st2 := [vR 9 0 0, vI (zxs Z (i + 1)), vR 3 0 0]) (m2 := m) rfl ?_
  refine lw_wrap hZ (M := ML_append) (x := 113) (as := [vR 3 0 0, vI (zxs Z (i + 1)), vR 9 0 0]) wl_append ?_ rfl (by decide) (fun hD => mw_append hZ.1 hZ.2.1 hZ.2.2.1 hZ.2.2.2.1 (hdcL _ (List.mem_of_getElem? (i := 7) rfl)) hD (zxs Z (i + 1))) (sub_at sb_append rfl) rfl ?_
  · intro u hu
    simp only [List.mem_cons, List.not_mem_nil, or_false] at hu
    rcases hu with rfl | rfl | rfl <;> rfl
  generalize (wo (e3 0 1 2) (o_X4_append m (zxs Z (i + 1))) (w_X4_append m (zxs Z (i + 1)))) = W at *
  obtain ⟨r, m3⟩ := W
  dsimp only at hr ht h0 ⊢
  refine lw_c hZ sb_append 6 (pc2 := 635) (L2 := [some (vR 10 0 0), some (vR 3 0 0), some (vR 7 0 0), some (vR 9 0 0), some (vI (nI i)), some (vI r), none, none, none]) (st2 := [vI (nI i + nI 1), vR 10 0 0, vR 7 0 0]) (m2 := m3) rfl ?_
  refine lw_s hZ sb_append (i + 1) (nI_add i 1) rfl (by omega) ?_
  refine lw_call hZ (M2 := MX5_append) [vI (zxs Z (i + 1))] (rest := []) hr (sub_at sb_append rfl) rfl rfl rfl rfl rfl ?_
  refine lw_c hZ sb_append 2 (pc2 := 642) (L2 := [some (vR 10 0 0), some (vR 3 0 0), some (vR 7 0 0), some (vR 9 0 0), some (vI (nI i)), some (vI r), some (vI b), none, none]) (st2 := [vR 7 0 0]) (m2 := m4) rfl ?_
  refine lw_call hZ (M2 := MX5_thrown) [] (rest := []) (r_X5_thrown m4) (sub_at sb_append rfl) rfl rfl rfl rfl rfl ?_
  refine lw_c hZ sb_append 2 (pc2 := if m4.1 7 0 0 5 = r then 652 else 650) (L2 := [some (vR 10 0 0), some (vR 3 0 0), some (vR 7 0 0), some (vR 9 0 0), some (vI (nI i)), some (vI r), some (vI b), none, none]) (st2 := []) (m2 := m4) rfl ?_
  refine lw_t ht ?_
  have fin : LW Z n 669 [some (vR 10 0 0), some (vR 3 0 0), some (vR 7 0 0), some (vR 9 0 0), some (vI (nI i)), some (vI r), some (vI b), none, none] [] m4 := by
    refine lw_c hZ sb_append 1 (pc2 := 1522) (L2 := [some (vR 10 0 0), some (vR 3 0 0), some (vR 7 0 0), some (vR 9 0 0), some (vI (nI i)), some (vI r), some (vI b), none, none]) (st2 := []) (m2 := m4) rfl ?_
    exact lc_end hZ (kk m4 s2 l2 hW)
  refine lw_c hZ sb_append 2 (pc2 := if ¬ r = 0 then 669 else 657) (L2 := [some (vR 10 0 0), some (vR 3 0 0), some (vR 7 0 0), some (vR 9 0 0), some (vI (nI i)), some (vI r), some (vI b), none, none]) (st2 := []) (m2 := m4) rfl ?_
  by_cases hk : r = 0
  · refine lw_f (fun q => q hk) ?_
    refine lw_c hZ sb_append 7 (pc2 := if lg_cmp (m4.2 9 0 0 0) b.toInt64 = 0 then 669 else 667) (L2 := [some (vR 10 0 0), some (vR 3 0 0), some (vR 7 0 0), some (vR 9 0 0), some (vI (nI i)), some (vI r), some (vI b), none, none]) (st2 := []) (m2 := m4) rfl ?_
    refine lw_t (by rw [h0 hk]; exact lg_same _) fin
  · exact lw_t hk fin
def T_run : List (Nat × Instr × Nat) := [(698, .aload_n 1, 1), (699, .aload_n 3, 1), (700, .invokestatic 124, 3), (703, .istore 5, 2), (705, .aload_n 2, 1), (706, .invokevirtual 127, 3), (709, .istore 6, 2), (711, .aload_n 2, 1), (712, .invokevirtual 90, 3), (715, .iload 5, 2), (717, .if_icmp .eq 5, 3), (720, .iconst 0, 1), (721, .ireturn, 1), (722, .iload 5, 2), (724, .ifCond .ne 15, 3), (727, .aload_n 3, 1), (728, .iconst 0, 1), (729, .laload, 1), (730, .iload 6, 2), (732, .i2l, 1), (733, .lcmp, 1), (734, .ifCond .eq 5, 3), (737, .iconst 0, 1), (738, .ireturn, 1), (739, .goto 783, 3)]
set_option maxRecDepth 100000 in
theorem sb_run : subB T_run = true := by decide +kernel
set_option maxRecDepth 100000 in
theorem wl_run : wlG 124 ML_run (hhO 8 hs_run) = true := by decide +kernel
theorem lc_run (hZ : LOK Z) (hdcL : ∀ M ∈ WL, dcG M) {i s len K : Nat} (hi : i + 5 ≤ zL9 Z) (H : WR m m s len K) (kk : ∀ m4 s2 l2, WR m4 m4 s2 l2 (K + 20) → LW Z n 23 (LLi (i + 5)) [] m4) : LW Z (n + 1) 698 (LLi i) [] m := by
  obtain ⟨b, m4, s2, l2, hr, hW, ht, h0⟩ := st_run H 
  show LW Z (n + 1) 698 [some (vR 10 0 0), some (vR 3 0 0), some (vR 7 0 0), some (vR 9 0 0), some (vI (nI i)), none, none, none, none] [] m
  refine lw_c hZ sb_run 2 (pc2 := 700) (L2 := [some (vR 10 0 0), some (vR 3 0 0), some (vR 7 0 0), some (vR 9 0 0), some (vI (nI i)), none, none, none, none]) (st2 := [vR 9 0 0, vR 3 0 0]) (m2 := m) rfl ?_
  refine lw_wrap hZ (M := ML_run) (x := 124) (as := [vR 3 0 0, vR 9 0 0]) wl_run ?_ rfl (by decide) (fun hD => mw_run hZ.1 hZ.2.1 hZ.2.2.1 hZ.2.2.2.1 (hdcL _ (List.mem_of_getElem? (i := 8) rfl)) hD ) (sub_at sb_run rfl) rfl ?_
  · intro u hu
    simp only [List.mem_cons, List.not_mem_nil, or_false] at hu
    rcases hu with rfl | rfl <;> rfl
  generalize (wo (e3 0 1 0) (o_X4_run m ) (w_X4_run m )) = W at *
  obtain ⟨r, m3⟩ := W
  dsimp only at hr ht h0 ⊢
  refine lw_c hZ sb_run 2 (pc2 := 706) (L2 := [some (vR 10 0 0), some (vR 3 0 0), some (vR 7 0 0), some (vR 9 0 0), some (vI (nI i)), some (vI r), none, none, none]) (st2 := [vR 7 0 0]) (m2 := m3) rfl ?_
  refine lw_call hZ (M2 := MX5_run) [] (rest := []) hr (sub_at sb_run rfl) rfl rfl rfl rfl rfl ?_
  refine lw_c hZ sb_run 2 (pc2 := 712) (L2 := [some (vR 10 0 0), some (vR 3 0 0), some (vR 7 0 0), some (vR 9 0 0), some (vI (nI i)), some (vI r), some (vI b), none, none]) (st2 := [vR 7 0 0]) (m2 := m4) rfl ?_
  refine lw_call hZ (M2 := MX5_thrown) [] (rest := []) (r_X5_thrown m4) (sub_at sb_run rfl) rfl rfl rfl rfl rfl ?_
  refine lw_c hZ sb_run 2 (pc2 := if m4.1 7 0 0 5 = r then 722 else 720) (L2 := [some (vR 10 0 0), some (vR 3 0 0), some (vR 7 0 0), some (vR 9 0 0), some (vI (nI i)), some (vI r), some (vI b), none, none]) (st2 := []) (m2 := m4) rfl ?_
  refine lw_t ht ?_
  have fin : LW Z n 739 [some (vR 10 0 0), some (vR 3 0 0), some (vR 7 0 0), some (vR 9 0 0), some (vI (nI i)), some (vI r), some (vI b), none, none] [] m4 := by
    refine lw_c hZ sb_run 1 (pc2 := 1522) (L2 := [some (vR 10 0 0), some (vR 3 0 0), some (vR 7 0 0), some (vR 9 0 0), some (vI (nI i)), some (vI r), some (vI b), none, none]) (st2 := []) (m2 := m4) rfl ?_
    exact lc_end hZ (kk m4 s2 l2 hW)
  refine lw_c hZ sb_run 2 (pc2 := if ¬ r = 0 then 739 else 727) (L2 := [some (vR 10 0 0), some (vR 3 0 0), some (vR 7 0 0), some (vR 9 0 0), some (vI (nI i)), some (vI r), some (vI b), none, none]) (st2 := []) (m2 := m4) rfl ?_
  by_cases hk : r = 0
  · refine lw_f (fun q => q hk) ?_
    refine lw_c hZ sb_run 7 (pc2 := if lg_cmp (m4.2 9 0 0 0) b.toInt64 = 0 then 739 else 737) (L2 := [some (vR 10 0 0), some (vR 3 0 0), some (vR 7 0 0), some (vR 9 0 0), some (vI (nI i)), some (vI r), some (vI b), none, none]) (st2 := []) (m2 := m4) rfl ?_
    refine lw_t (by rw [h0 hk]; exact lg_same _) fin
  · exact lw_t hk fin
def T_undo : List (Nat × Instr × Nat) := [(742, .aload_n 1, 1), (743, .aload_n 3, 1), (744, .invokestatic 128, 3), (747, .istore 5, 2), (749, .aload_n 2, 1), (750, .invokevirtual 130, 3), (753, .istore 6, 2), (755, .aload_n 2, 1), (756, .invokevirtual 90, 3), (759, .iload 5, 2), (761, .if_icmp .eq 5, 3), (764, .iconst 0, 1), (765, .ireturn, 1), (766, .iload 5, 2), (768, .ifCond .ne 15, 3), (771, .aload_n 3, 1), (772, .iconst 0, 1), (773, .laload, 1), (774, .iload 6, 2), (776, .i2l, 1), (777, .lcmp, 1), (778, .ifCond .eq 5, 3), (781, .iconst 0, 1), (782, .ireturn, 1), (783, .goto 739, 3)]
set_option maxRecDepth 100000 in
theorem sb_undo : subB T_undo = true := by decide +kernel
set_option maxRecDepth 100000 in
theorem wl_undo : wlG 128 ML_undo (hhO 8 hs_undo) = true := by decide +kernel
theorem lc_undo (hZ : LOK Z) (hdcL : ∀ M ∈ WL, dcG M) {i s len K : Nat} (hi : i + 5 ≤ zL9 Z) (H : WR m m s len K) (kk : ∀ m4 s2 l2, WR m4 m4 s2 l2 (K + 20) → LW Z n 23 (LLi (i + 5)) [] m4) : LW Z (n + 1) 742 (LLi i) [] m := by
  obtain ⟨b, m4, s2, l2, hr, hW, ht, h0⟩ := st_undo H 
  show LW Z (n + 1) 742 [some (vR 10 0 0), some (vR 3 0 0), some (vR 7 0 0), some (vR 9 0 0), some (vI (nI i)), none, none, none, none] [] m
  refine lw_c hZ sb_undo 2 (pc2 := 744) (L2 := [some (vR 10 0 0), some (vR 3 0 0), some (vR 7 0 0), some (vR 9 0 0), some (vI (nI i)), none, none, none, none]) (st2 := [vR 9 0 0, vR 3 0 0]) (m2 := m) rfl ?_
  refine lw_wrap hZ (M := ML_undo) (x := 128) (as := [vR 3 0 0, vR 9 0 0]) wl_undo ?_ rfl (by decide) (fun hD => mw_undo hZ.1 hZ.2.1 hZ.2.2.1 hZ.2.2.2.1 (hdcL _ (List.mem_of_getElem? (i := 9) rfl)) hD ) (sub_at sb_undo rfl) rfl ?_
  · intro u hu
    simp only [List.mem_cons, List.not_mem_nil, or_false] at hu
    rcases hu with rfl | rfl <;> rfl
  generalize (wo (e3 0 0 1) (o_X4_undo m ) (w_X4_undo m )) = W at *
  obtain ⟨r, m3⟩ := W
  dsimp only at hr ht h0 ⊢
  refine lw_c hZ sb_undo 2 (pc2 := 750) (L2 := [some (vR 10 0 0), some (vR 3 0 0), some (vR 7 0 0), some (vR 9 0 0), some (vI (nI i)), some (vI r), none, none, none]) (st2 := [vR 7 0 0]) (m2 := m3) rfl ?_
  refine lw_call hZ (M2 := MX5_undo) [] (rest := []) hr (sub_at sb_undo rfl) rfl rfl rfl rfl rfl ?_
  refine lw_c hZ sb_undo 2 (pc2 := 756) (L2 := [some (vR 10 0 0), some (vR 3 0 0), some (vR 7 0 0), some (vR 9 0 0), some (vI (nI i)), some (vI r), some (vI b), none, none]) (st2 := [vR 7 0 0]) (m2 := m4) rfl ?_
  refine lw_call hZ (M2 := MX5_thrown) [] (rest := []) (r_X5_thrown m4) (sub_at sb_undo rfl) rfl rfl rfl rfl rfl ?_
  refine lw_c hZ sb_undo 2 (pc2 := if m4.1 7 0 0 5 = r then 766 else 764) (L2 := [some (vR 10 0 0), some (vR 3 0 0), some (vR 7 0 0), some (vR 9 0 0), some (vI (nI i)), some (vI r), some (vI b), none, none]) (st2 := []) (m2 := m4) rfl ?_
  refine lw_t ht ?_
  have fin : LW Z n 783 [some (vR 10 0 0), some (vR 3 0 0), some (vR 7 0 0), some (vR 9 0 0), some (vI (nI i)), some (vI r), some (vI b), none, none] [] m4 := by
    refine lw_c hZ sb_undo 1 (pc2 := 1522) (L2 := [some (vR 10 0 0), some (vR 3 0 0), some (vR 7 0 0), some (vR 9 0 0), some (vI (nI i)), some (vI r), some (vI b), none, none]) (st2 := []) (m2 := m4) rfl ?_
    exact lc_end hZ (kk m4 s2 l2 hW)
  refine lw_c hZ sb_undo 2 (pc2 := if ¬ r = 0 then 783 else 771) (L2 := [some (vR 10 0 0), some (vR 3 0 0), some (vR 7 0 0), some (vR 9 0 0), some (vI (nI i)), some (vI r), some (vI b), none, none]) (st2 := []) (m2 := m4) rfl ?_
  by_cases hk : r = 0
  · refine lw_f (fun q => q hk) ?_
    refine lw_c hZ sb_undo 7 (pc2 := if lg_cmp (m4.2 9 0 0 0) b.toInt64 = 0 then 783 else 781) (L2 := [some (vR 10 0 0), some (vR 3 0 0), some (vR 7 0 0), some (vR 9 0 0), some (vI (nI i)), some (vI r), some (vI b), none, none]) (st2 := []) (m2 := m4) rfl ?_
    refine lw_t (by rw [h0 hk]; exact lg_same _) fin
  · exact lw_t hk fin
def T_lock : List (Nat × Instr × Nat) := [(786, .aload_n 1, 1), (787, .aload_n 0, 1), (788, .iload 4, 2), (790, .iconst 1, 1), (791, .iadd, 1), (792, .iaload, 1), (793, .aload_n 0, 1), (794, .iload 4, 2), (796, .iconst 2, 1), (797, .iadd, 1), (798, .iaload, 1), (799, .aload_n 3, 1), (800, .invokestatic 131, 3), (803, .istore 5, 2), (805, .aload_n 2, 1), (806, .aload_n 0, 1), (807, .iload 4, 2), (809, .iconst 1, 1), (810, .iadd, 1), (811, .iaload, 1), (812, .aload_n 0, 1), (813, .iload 4, 2), (815, .iconst 2, 1), (816, .iadd, 1), (817, .iaload, 1), (818, .invokevirtual 133, 3), (821, .istore 6, 2), (823, .aload_n 2, 1), (824, .invokevirtual 90, 3), (827, .iload 5, 2), (829, .if_icmp .eq 5, 3), (832, .iconst 0, 1), (833, .ireturn, 1), (834, .iload 5, 2), (836, .ifCond .ne 15, 3), (839, .aload_n 3, 1), (840, .iconst 0, 1), (841, .laload, 1), (842, .iload 6, 2), (844, .i2l, 1), (845, .lcmp, 1), (846, .ifCond .eq 5, 3), (849, .iconst 0, 1), (850, .ireturn, 1), (851, .goto 671, 3)]
set_option maxRecDepth 100000 in
theorem sb_lock : subB T_lock = true := by decide +kernel
set_option maxRecDepth 100000 in
theorem wl_lock : wlG 131 ML_lock (hhO 10 hs_lock) = true := by decide +kernel
theorem lc_lock (hZ : LOK Z) (hdcL : ∀ M ∈ WL, dcG M) {i s len K : Nat} (hi : i + 5 ≤ zL9 Z) (H : WR m m s len K) (kk : ∀ m4 s2 l2, WR m4 m4 s2 l2 (K + 20) → LW Z n 23 (LLi (i + 5)) [] m4) : LW Z (n + 1) 786 (LLi i) [] m := by
  obtain ⟨b, m4, s2, l2, hr, hW, ht, h0⟩ := st_lock H (zxs Z (i + 1)) (zxs Z (i + 2))
  show LW Z (n + 1) 786 [some (vR 10 0 0), some (vR 3 0 0), some (vR 7 0 0), some (vR 9 0 0), some (vI (nI i)), none, none, none, none] [] m
  refine lw_c hZ sb_lock 5 (pc2 := 792) (L2 := [some (vR 10 0 0), some (vR 3 0 0), some (vR 7 0 0), some (vR 9 0 0), some (vI (nI i)), none, none, none, none]) (st2 := [vI (nI i + nI 1), vR 10 0 0, vR 3 0 0]) (m2 := m) rfl ?_
  refine lw_s hZ sb_lock (i + 1) (nI_add i 1) rfl (by omega) ?_
  refine lw_c hZ sb_lock 4 (pc2 := 798) (L2 := [some (vR 10 0 0), some (vR 3 0 0), some (vR 7 0 0), some (vR 9 0 0), some (vI (nI i)), none, none, none, none]) (st2 := [vI (nI i + nI 2), vR 10 0 0, vI (zxs Z (i + 1)), vR 3 0 0]) (m2 := m) rfl ?_
  refine lw_s hZ sb_lock (i + 2) (nI_add i 2) rfl (by omega) ?_
  refine lw_c hZ sb_lock 1 (pc2 := 800) (L2 := [some (vR 10 0 0), some (vR 3 0 0), some (vR 7 0 0), some (vR 9 0 0), some (vI (nI i)), none, none, none, none]) (st2 := [vR 9 0 0, vI (zxs Z (i + 2)), vI (zxs Z (i + 1)), vR 3 0 0]) (m2 := m) rfl ?_
  refine lw_wrap hZ (M := ML_lock) (x := 131) (as := [vR 3 0 0, vI (zxs Z (i + 1)), vI (zxs Z (i + 2)), vR 9 0 0]) wl_lock ?_ rfl (by decide) (fun hD => mw_lock hZ.1 hZ.2.1 hZ.2.2.1 hZ.2.2.2.1 (hdcL _ (List.mem_of_getElem? (i := 10) rfl)) hD (zxs Z (i + 1)) (zxs Z (i + 2))) (sub_at sb_lock rfl) rfl ?_
  · intro u hu
    simp only [List.mem_cons, List.not_mem_nil, or_false] at hu
    rcases hu with rfl | rfl | rfl | rfl <;> rfl
  generalize (wo (e3 1 0 0) (o_X4_lock m (zxs Z (i + 1)) (zxs Z (i + 2))) m) = W at *
  obtain ⟨r, m3⟩ := W
  dsimp only at hr ht h0 ⊢
  refine lw_c hZ sb_lock 6 (pc2 := 811) (L2 := [some (vR 10 0 0), some (vR 3 0 0), some (vR 7 0 0), some (vR 9 0 0), some (vI (nI i)), some (vI r), none, none, none]) (st2 := [vI (nI i + nI 1), vR 10 0 0, vR 7 0 0]) (m2 := m3) rfl ?_
  refine lw_s hZ sb_lock (i + 1) (nI_add i 1) rfl (by omega) ?_
  refine lw_c hZ sb_lock 4 (pc2 := 817) (L2 := [some (vR 10 0 0), some (vR 3 0 0), some (vR 7 0 0), some (vR 9 0 0), some (vI (nI i)), some (vI r), none, none, none]) (st2 := [vI (nI i + nI 2), vR 10 0 0, vI (zxs Z (i + 1)), vR 7 0 0]) (m2 := m3) rfl ?_
  refine lw_s hZ sb_lock (i + 2) (nI_add i 2) rfl (by omega) ?_
  refine lw_call hZ (M2 := MX5_lock) [vI (zxs Z (i + 1)), vI (zxs Z (i + 2))] (rest := []) hr (sub_at sb_lock rfl) rfl rfl rfl rfl rfl ?_
  refine lw_c hZ sb_lock 2 (pc2 := 824) (L2 := [some (vR 10 0 0), some (vR 3 0 0), some (vR 7 0 0), some (vR 9 0 0), some (vI (nI i)), some (vI r), some (vI b), none, none]) (st2 := [vR 7 0 0]) (m2 := m4) rfl ?_
  refine lw_call hZ (M2 := MX5_thrown) [] (rest := []) (r_X5_thrown m4) (sub_at sb_lock rfl) rfl rfl rfl rfl rfl ?_
  refine lw_c hZ sb_lock 2 (pc2 := if m4.1 7 0 0 5 = r then 834 else 832) (L2 := [some (vR 10 0 0), some (vR 3 0 0), some (vR 7 0 0), some (vR 9 0 0), some (vI (nI i)), some (vI r), some (vI b), none, none]) (st2 := []) (m2 := m4) rfl ?_
  refine lw_t ht ?_
  have fin : LW Z n 851 [some (vR 10 0 0), some (vR 3 0 0), some (vR 7 0 0), some (vR 9 0 0), some (vI (nI i)), some (vI r), some (vI b), none, none] [] m4 := by
    refine lw_c hZ sb_lock 1 (pc2 := 1522) (L2 := [some (vR 10 0 0), some (vR 3 0 0), some (vR 7 0 0), some (vR 9 0 0), some (vI (nI i)), some (vI r), some (vI b), none, none]) (st2 := []) (m2 := m4) rfl ?_
    exact lc_end hZ (kk m4 s2 l2 hW)
  refine lw_c hZ sb_lock 2 (pc2 := if ¬ r = 0 then 851 else 839) (L2 := [some (vR 10 0 0), some (vR 3 0 0), some (vR 7 0 0), some (vR 9 0 0), some (vI (nI i)), some (vI r), some (vI b), none, none]) (st2 := []) (m2 := m4) rfl ?_
  by_cases hk : r = 0
  · refine lw_f (fun q => q hk) ?_
    refine lw_c hZ sb_lock 7 (pc2 := if lg_cmp (m4.2 9 0 0 0) b.toInt64 = 0 then 851 else 849) (L2 := [some (vR 10 0 0), some (vR 3 0 0), some (vR 7 0 0), some (vR 9 0 0), some (vI (nI i)), some (vI r), some (vI b), none, none]) (st2 := []) (m2 := m4) rfl ?_
    refine lw_t (by rw [h0 hk]; exact lg_same _) fin
  · exact lw_t hk fin
def T_hand : List (Nat × Instr × Nat) := [(854, .aload_n 1, 1), (855, .aload_n 0, 1), (856, .iload 4, 2), (858, .iconst 1, 1), (859, .iadd, 1), (860, .iaload, 1), (861, .aload_n 0, 1), (862, .iload 4, 2), (864, .iconst 2, 1), (865, .iadd, 1), (866, .iaload, 1), (867, .aload_n 3, 1), (868, .invokestatic 134, 3), (871, .istore 5, 2), (873, .aload_n 2, 1), (874, .aload_n 0, 1), (875, .iload 4, 2), (877, .iconst 1, 1), (878, .iadd, 1), (879, .iaload, 1), (880, .aload_n 0, 1), (881, .iload 4, 2), (883, .iconst 2, 1), (884, .iadd, 1), (885, .iaload, 1), (886, .invokevirtual 136, 3), (889, .istore 6, 2), (891, .aload_n 2, 1), (892, .invokevirtual 90, 3), (895, .iload 5, 2), (897, .if_icmp .eq 5, 3), (900, .iconst 0, 1), (901, .ireturn, 1), (902, .iload 5, 2), (904, .ifCond .ne 15, 3), (907, .aload_n 3, 1), (908, .iconst 0, 1), (909, .laload, 1), (910, .iload 6, 2), (912, .i2l, 1), (913, .lcmp, 1), (914, .ifCond .eq 5, 3), (917, .iconst 0, 1), (918, .ireturn, 1), (919, .goto 603, 3)]
set_option maxRecDepth 100000 in
theorem sb_hand : subB T_hand = true := by decide +kernel
set_option maxRecDepth 100000 in
theorem wl_hand : wlG 134 ML_hand (hhO 10 hs_hand) = true := by decide +kernel
theorem lc_hand (hZ : LOK Z) (hdcL : ∀ M ∈ WL, dcG M) {i s len K : Nat} (hi : i + 5 ≤ zL9 Z) (H : WR m m s len K) (kk : ∀ m4 s2 l2, WR m4 m4 s2 l2 (K + 20) → LW Z n 23 (LLi (i + 5)) [] m4) : LW Z (n + 1) 854 (LLi i) [] m := by
  obtain ⟨b, m4, s2, l2, hr, hW, ht, h0⟩ := st_hand H (zxs Z (i + 1)) (zxs Z (i + 2))
  show LW Z (n + 1) 854 [some (vR 10 0 0), some (vR 3 0 0), some (vR 7 0 0), some (vR 9 0 0), some (vI (nI i)), none, none, none, none] [] m
  refine lw_c hZ sb_hand 5 (pc2 := 860) (L2 := [some (vR 10 0 0), some (vR 3 0 0), some (vR 7 0 0), some (vR 9 0 0), some (vI (nI i)), none, none, none, none]) (st2 := [vI (nI i + nI 1), vR 10 0 0, vR 3 0 0]) (m2 := m) rfl ?_
  refine lw_s hZ sb_hand (i + 1) (nI_add i 1) rfl (by omega) ?_
  refine lw_c hZ sb_hand 4 (pc2 := 866) (L2 := [some (vR 10 0 0), some (vR 3 0 0), some (vR 7 0 0), some (vR 9 0 0), some (vI (nI i)), none, none, none, none]) (st2 := [vI (nI i + nI 2), vR 10 0 0, vI (zxs Z (i + 1)), vR 3 0 0]) (m2 := m) rfl ?_
  refine lw_s hZ sb_hand (i + 2) (nI_add i 2) rfl (by omega) ?_
  refine lw_c hZ sb_hand 1 (pc2 := 868) (L2 := [some (vR 10 0 0), some (vR 3 0 0), some (vR 7 0 0), some (vR 9 0 0), some (vI (nI i)), none, none, none, none]) (st2 := [vR 9 0 0, vI (zxs Z (i + 2)), vI (zxs Z (i + 1)), vR 3 0 0]) (m2 := m) rfl ?_
  refine lw_wrap hZ (M := ML_hand) (x := 134) (as := [vR 3 0 0, vI (zxs Z (i + 1)), vI (zxs Z (i + 2)), vR 9 0 0]) wl_hand ?_ rfl (by decide) (fun hD => mw_hand hZ.1 hZ.2.1 hZ.2.2.1 hZ.2.2.2.1 (hdcL _ (List.mem_of_getElem? (i := 11) rfl)) hD (zxs Z (i + 1)) (zxs Z (i + 2))) (sub_at sb_hand rfl) rfl ?_
  · intro u hu
    simp only [List.mem_cons, List.not_mem_nil, or_false] at hu
    rcases hu with rfl | rfl | rfl | rfl <;> rfl
  generalize (wo (e3 1 2 0) (o_X4_hand m (zxs Z (i + 1)) (zxs Z (i + 2))) m) = W at *
  obtain ⟨r, m3⟩ := W
  dsimp only at hr ht h0 ⊢
  refine lw_c hZ sb_hand 6 (pc2 := 879) (L2 := [some (vR 10 0 0), some (vR 3 0 0), some (vR 7 0 0), some (vR 9 0 0), some (vI (nI i)), some (vI r), none, none, none]) (st2 := [vI (nI i + nI 1), vR 10 0 0, vR 7 0 0]) (m2 := m3) rfl ?_
  refine lw_s hZ sb_hand (i + 1) (nI_add i 1) rfl (by omega) ?_
  refine lw_c hZ sb_hand 4 (pc2 := 885) (L2 := [some (vR 10 0 0), some (vR 3 0 0), some (vR 7 0 0), some (vR 9 0 0), some (vI (nI i)), some (vI r), none, none, none]) (st2 := [vI (nI i + nI 2), vR 10 0 0, vI (zxs Z (i + 1)), vR 7 0 0]) (m2 := m3) rfl ?_
  refine lw_s hZ sb_hand (i + 2) (nI_add i 2) rfl (by omega) ?_
  refine lw_call hZ (M2 := MX5_hand) [vI (zxs Z (i + 1)), vI (zxs Z (i + 2))] (rest := []) hr (sub_at sb_hand rfl) rfl rfl rfl rfl rfl ?_
  refine lw_c hZ sb_hand 2 (pc2 := 892) (L2 := [some (vR 10 0 0), some (vR 3 0 0), some (vR 7 0 0), some (vR 9 0 0), some (vI (nI i)), some (vI r), some (vI b), none, none]) (st2 := [vR 7 0 0]) (m2 := m4) rfl ?_
  refine lw_call hZ (M2 := MX5_thrown) [] (rest := []) (r_X5_thrown m4) (sub_at sb_hand rfl) rfl rfl rfl rfl rfl ?_
  refine lw_c hZ sb_hand 2 (pc2 := if m4.1 7 0 0 5 = r then 902 else 900) (L2 := [some (vR 10 0 0), some (vR 3 0 0), some (vR 7 0 0), some (vR 9 0 0), some (vI (nI i)), some (vI r), some (vI b), none, none]) (st2 := []) (m2 := m4) rfl ?_
  refine lw_t ht ?_
  have fin : LW Z n 919 [some (vR 10 0 0), some (vR 3 0 0), some (vR 7 0 0), some (vR 9 0 0), some (vI (nI i)), some (vI r), some (vI b), none, none] [] m4 := by
    refine lw_c hZ sb_hand 1 (pc2 := 1522) (L2 := [some (vR 10 0 0), some (vR 3 0 0), some (vR 7 0 0), some (vR 9 0 0), some (vI (nI i)), some (vI r), some (vI b), none, none]) (st2 := []) (m2 := m4) rfl ?_
    exact lc_end hZ (kk m4 s2 l2 hW)
  refine lw_c hZ sb_hand 2 (pc2 := if ¬ r = 0 then 919 else 907) (L2 := [some (vR 10 0 0), some (vR 3 0 0), some (vR 7 0 0), some (vR 9 0 0), some (vI (nI i)), some (vI r), some (vI b), none, none]) (st2 := []) (m2 := m4) rfl ?_
  by_cases hk : r = 0
  · refine lw_f (fun q => q hk) ?_
    refine lw_c hZ sb_hand 7 (pc2 := if lg_cmp (m4.2 9 0 0 0) b.toInt64 = 0 then 919 else 917) (L2 := [some (vR 10 0 0), some (vR 3 0 0), some (vR 7 0 0), some (vR 9 0 0), some (vI (nI i)), some (vI r), some (vI b), none, none]) (st2 := []) (m2 := m4) rfl ?_
    refine lw_t (by rw [h0 hk]; exact lg_same _) fin
  · exact lw_t hk fin
def T_row : List (Nat × Instr × Nat) := [(922, .aload_n 1, 1), (923, .aload_n 0, 1), (924, .iload 4, 2), (926, .iconst 1, 1), (927, .iadd, 1), (928, .iaload, 1), (929, .aload_n 0, 1), (930, .iload 4, 2), (932, .iconst 2, 1), (933, .iadd, 1), (934, .iaload, 1), (935, .aload_n 3, 1), (936, .invokestatic 137, 3), (939, .istore 5, 2), (941, .aload_n 2, 1), (942, .aload_n 0, 1), (943, .iload 4, 2), (945, .iconst 1, 1), (946, .iadd, 1), (947, .iaload, 1), (948, .aload_n 0, 1), (949, .iload 4, 2), (951, .iconst 2, 1), (952, .iadd, 1), (953, .iaload, 1), (954, .invokevirtual 139, 3), (957, .istore 6, 2), (959, .aload_n 2, 1), (960, .invokevirtual 90, 3), (963, .iload 5, 2), (965, .if_icmp .eq 5, 3), (968, .iconst 0, 1), (969, .ireturn, 1), (970, .iload 5, 2), (972, .ifCond .ne 15, 3), (975, .aload_n 3, 1), (976, .iconst 0, 1), (977, .laload, 1), (978, .iload 6, 2), (980, .i2l, 1), (981, .lcmp, 1), (982, .ifCond .eq 5, 3), (985, .iconst 0, 1), (986, .ireturn, 1), (987, .goto 535, 3)]
set_option maxRecDepth 100000 in
theorem sb_row : subB T_row = true := by decide +kernel
set_option maxRecDepth 100000 in
theorem wl_row : wlG 137 ML_row (hhO 10 hs_row) = true := by decide +kernel
theorem lc_row (hZ : LOK Z) (hdcL : ∀ M ∈ WL, dcG M) {i s len K : Nat} (hi : i + 5 ≤ zL9 Z) (H : WR m m s len K) (kk : ∀ m4 s2 l2, WR m4 m4 s2 l2 (K + 20) → LW Z n 23 (LLi (i + 5)) [] m4) : LW Z (n + 1) 922 (LLi i) [] m := by
  obtain ⟨b, m4, s2, l2, hr, hW, ht, h0⟩ := st_row H (zxs Z (i + 1)) (zxs Z (i + 2))
  show LW Z (n + 1) 922 [some (vR 10 0 0), some (vR 3 0 0), some (vR 7 0 0), some (vR 9 0 0), some (vI (nI i)), none, none, none, none] [] m
  refine lw_c hZ sb_row 5 (pc2 := 928) (L2 := [some (vR 10 0 0), some (vR 3 0 0), some (vR 7 0 0), some (vR 9 0 0), some (vI (nI i)), none, none, none, none]) (st2 := [vI (nI i + nI 1), vR 10 0 0, vR 3 0 0]) (m2 := m) rfl ?_
  refine lw_s hZ sb_row (i + 1) (nI_add i 1) rfl (by omega) ?_
  refine lw_c hZ sb_row 4 (pc2 := 934) (L2 := [some (vR 10 0 0), some (vR 3 0 0), some (vR 7 0 0), some (vR 9 0 0), some (vI (nI i)), none, none, none, none]) (st2 := [vI (nI i + nI 2), vR 10 0 0, vI (zxs Z (i + 1)), vR 3 0 0]) (m2 := m) rfl ?_
  refine lw_s hZ sb_row (i + 2) (nI_add i 2) rfl (by omega) ?_
  refine lw_c hZ sb_row 1 (pc2 := 936) (L2 := [some (vR 10 0 0), some (vR 3 0 0), some (vR 7 0 0), some (vR 9 0 0), some (vI (nI i)), none, none, none, none]) (st2 := [vR 9 0 0, vI (zxs Z (i + 2)), vI (zxs Z (i + 1)), vR 3 0 0]) (m2 := m) rfl ?_
  refine lw_wrap hZ (M := ML_row) (x := 137) (as := [vR 3 0 0, vI (zxs Z (i + 1)), vI (zxs Z (i + 2)), vR 9 0 0]) wl_row ?_ rfl (by decide) (fun hD => mw_row hZ.1 hZ.2.1 hZ.2.2.1 hZ.2.2.2.1 (hdcL _ (List.mem_of_getElem? (i := 12) rfl)) hD (zxs Z (i + 1)) (zxs Z (i + 2))) (sub_at sb_row rfl) rfl ?_
  · intro u hu
    simp only [List.mem_cons, List.not_mem_nil, or_false] at hu
    rcases hu with rfl | rfl | rfl | rfl <;> rfl
  generalize (wo (e3 1 2 0) (o_X4_row m (zxs Z (i + 1)) (zxs Z (i + 2))) m) = W at *
  obtain ⟨r, m3⟩ := W
  dsimp only at hr ht h0 ⊢
  refine lw_c hZ sb_row 6 (pc2 := 947) (L2 := [some (vR 10 0 0), some (vR 3 0 0), some (vR 7 0 0), some (vR 9 0 0), some (vI (nI i)), some (vI r), none, none, none]) (st2 := [vI (nI i + nI 1), vR 10 0 0, vR 7 0 0]) (m2 := m3) rfl ?_
  refine lw_s hZ sb_row (i + 1) (nI_add i 1) rfl (by omega) ?_
  refine lw_c hZ sb_row 4 (pc2 := 953) (L2 := [some (vR 10 0 0), some (vR 3 0 0), some (vR 7 0 0), some (vR 9 0 0), some (vI (nI i)), some (vI r), none, none, none]) (st2 := [vI (nI i + nI 2), vR 10 0 0, vI (zxs Z (i + 1)), vR 7 0 0]) (m2 := m3) rfl ?_
  refine lw_s hZ sb_row (i + 2) (nI_add i 2) rfl (by omega) ?_
  refine lw_call hZ (M2 := MX5_row) [vI (zxs Z (i + 1)), vI (zxs Z (i + 2))] (rest := []) hr (sub_at sb_row rfl) rfl rfl rfl rfl rfl ?_
  refine lw_c hZ sb_row 2 (pc2 := 960) (L2 := [some (vR 10 0 0), some (vR 3 0 0), some (vR 7 0 0), some (vR 9 0 0), some (vI (nI i)), some (vI r), some (vI b), none, none]) (st2 := [vR 7 0 0]) (m2 := m4) rfl ?_
  refine lw_call hZ (M2 := MX5_thrown) [] (rest := []) (r_X5_thrown m4) (sub_at sb_row rfl) rfl rfl rfl rfl rfl ?_
  refine lw_c hZ sb_row 2 (pc2 := if m4.1 7 0 0 5 = r then 970 else 968) (L2 := [some (vR 10 0 0), some (vR 3 0 0), some (vR 7 0 0), some (vR 9 0 0), some (vI (nI i)), some (vI r), some (vI b), none, none]) (st2 := []) (m2 := m4) rfl ?_
  refine lw_t ht ?_
  have fin : LW Z n 987 [some (vR 10 0 0), some (vR 3 0 0), some (vR 7 0 0), some (vR 9 0 0), some (vI (nI i)), some (vI r), some (vI b), none, none] [] m4 := by
    refine lw_c hZ sb_row 1 (pc2 := 1522) (L2 := [some (vR 10 0 0), some (vR 3 0 0), some (vR 7 0 0), some (vR 9 0 0), some (vI (nI i)), some (vI r), some (vI b), none, none]) (st2 := []) (m2 := m4) rfl ?_
    exact lc_end hZ (kk m4 s2 l2 hW)
  refine lw_c hZ sb_row 2 (pc2 := if ¬ r = 0 then 987 else 975) (L2 := [some (vR 10 0 0), some (vR 3 0 0), some (vR 7 0 0), some (vR 9 0 0), some (vI (nI i)), some (vI r), some (vI b), none, none]) (st2 := []) (m2 := m4) rfl ?_
  by_cases hk : r = 0
  · refine lw_f (fun q => q hk) ?_
    refine lw_c hZ sb_row 7 (pc2 := if lg_cmp (m4.2 9 0 0 0) b.toInt64 = 0 then 987 else 985) (L2 := [some (vR 10 0 0), some (vR 3 0 0), some (vR 7 0 0), some (vR 9 0 0), some (vI (nI i)), some (vI r), some (vI b), none, none]) (st2 := []) (m2 := m4) rfl ?_
    refine lw_t (by rw [h0 hk]; exact lg_same _) fin
  · exact lw_t hk fin
def T_request : List (Nat × Instr × Nat) := [(990, .aload_n 1, 1), (991, .aload_n 0, 1), (992, .iload 4, 2), (994, .iconst 1, 1), (995, .iadd, 1), (996, .iaload, 1), (997, .aload_n 0, 1), (998, .iload 4, 2), (1000, .iconst 2, 1), (1001, .iadd, 1), (1002, .iaload, 1), (1003, .aload_n 0, 1), (1004, .iload 4, 2), (1006, .iconst 3, 1), (1007, .iadd, 1), (1008, .iaload, 1), (1009, .aload_n 3, 1), (1010, .invokestatic 140, 3), (1013, .istore 5, 2), (1015, .aload_n 2, 1), (1016, .aload_n 0, 1), (1017, .iload 4, 2), (1019, .iconst 1, 1), (1020, .iadd, 1), (1021, .iaload, 1), (1022, .aload_n 0, 1), (1023, .iload 4, 2), (1025, .iconst 2, 1), (1026, .iadd, 1), (1027, .iaload, 1), (1028, .aload_n 0, 1), (1029, .iload 4, 2), (1031, .iconst 3, 1), (1032, .iadd, 1), (1033, .iaload, 1), (1034, .invokevirtual 142, 3), (1037, .istore 6, 2), (1039, .aload_n 2, 1), (1040, .invokevirtual 90, 3), (1043, .iload 5, 2), (1045, .if_icmp .eq 5, 3), (1048, .iconst 0, 1), (1049, .ireturn, 1), (1050, .iload 5, 2), (1052, .ifCond .ne 15, 3), (1055, .aload_n 3, 1), (1056, .iconst 0, 1), (1057, .laload, 1), (1058, .iload 6, 2), (1060, .i2l, 1), (1061, .lcmp, 1), (1062, .ifCond .eq 5, 3), (1065, .iconst 0, 1), (1066, .ireturn, 1), (1067, .goto 455, 3)]
set_option maxRecDepth 100000 in
theorem sb_request : subB T_request = true := by decide +kernel
set_option maxRecDepth 100000 in
theorem wl_request : wlG 140 ML_request (hhO 12 hs_request) = true := by decide +kernel
theorem lc_request (hZ : LOK Z) (hdcL : ∀ M ∈ WL, dcG M) {i s len K : Nat} (hi : i + 5 ≤ zL9 Z) (H : WR m m s len K) (kk : ∀ m4 s2 l2, WR m4 m4 s2 l2 (K + 20) → LW Z n 23 (LLi (i + 5)) [] m4) : LW Z (n + 1) 990 (LLi i) [] m := by
  obtain ⟨b, m4, s2, l2, hr, hW, ht, h0⟩ := st_request H (zxs Z (i + 1)) (zxs Z (i + 2)) (zxs Z (i + 3))
  show LW Z (n + 1) 990 [some (vR 10 0 0), some (vR 3 0 0), some (vR 7 0 0), some (vR 9 0 0), some (vI (nI i)), none, none, none, none] [] m
  refine lw_c hZ sb_request 5 (pc2 := 996) (L2 := [some (vR 10 0 0), some (vR 3 0 0), some (vR 7 0 0), some (vR 9 0 0), some (vI (nI i)), none, none, none, none]) (st2 := [vI (nI i + nI 1), vR 10 0 0, vR 3 0 0]) (m2 := m) rfl ?_
  refine lw_s hZ sb_request (i + 1) (nI_add i 1) rfl (by omega) ?_
  refine lw_c hZ sb_request 4 (pc2 := 1002) (L2 := [some (vR 10 0 0), some (vR 3 0 0), some (vR 7 0 0), some (vR 9 0 0), some (vI (nI i)), none, none, none, none]) (st2 := [vI (nI i + nI 2), vR 10 0 0, vI (zxs Z (i + 1)), vR 3 0 0]) (m2 := m) rfl ?_
  refine lw_s hZ sb_request (i + 2) (nI_add i 2) rfl (by omega) ?_
  refine lw_c hZ sb_request 4 (pc2 := 1008) (L2 := [some (vR 10 0 0), some (vR 3 0 0), some (vR 7 0 0), some (vR 9 0 0), some (vI (nI i)), none, none, none, none]) (st2 := [vI (nI i + nI 3), vR 10 0 0, vI (zxs Z (i + 2)), vI (zxs Z (i + 1)), vR 3 0 0]) (m2 := m) rfl ?_
  refine lw_s hZ sb_request (i + 3) (nI_add i 3) rfl (by omega) ?_
  refine lw_c hZ sb_request 1 (pc2 := 1010) (L2 := [some (vR 10 0 0), some (vR 3 0 0), some (vR 7 0 0), some (vR 9 0 0), some (vI (nI i)), none, none, none, none]) (st2 := [vR 9 0 0, vI (zxs Z (i + 3)), vI (zxs Z (i + 2)), vI (zxs Z (i + 1)), vR 3 0 0]) (m2 := m) rfl ?_
  refine lw_wrap hZ (M := ML_request) (x := 140) (as := [vR 3 0 0, vI (zxs Z (i + 1)), vI (zxs Z (i + 2)), vI (zxs Z (i + 3)), vR 9 0 0]) wl_request ?_ rfl (by decide) (fun hD => mw_request hZ.1 hZ.2.1 hZ.2.2.1 hZ.2.2.2.1 (hdcL _ (List.mem_of_getElem? (i := 13) rfl)) hD (zxs Z (i + 1)) (zxs Z (i + 2)) (zxs Z (i + 3))) (sub_at sb_request rfl) rfl ?_
  · intro u hu
    simp only [List.mem_cons, List.not_mem_nil, or_false] at hu
    rcases hu with rfl | rfl | rfl | rfl | rfl <;> rfl
  generalize (wo (e3 1 2 0) (o_X4_request m (zxs Z (i + 1)) (zxs Z (i + 2)) (zxs Z (i + 3))) m) = W at *
  obtain ⟨r, m3⟩ := W
  dsimp only at hr ht h0 ⊢
  refine lw_c hZ sb_request 6 (pc2 := 1021) (L2 := [some (vR 10 0 0), some (vR 3 0 0), some (vR 7 0 0), some (vR 9 0 0), some (vI (nI i)), some (vI r), none, none, none]) (st2 := [vI (nI i + nI 1), vR 10 0 0, vR 7 0 0]) (m2 := m3) rfl ?_
  refine lw_s hZ sb_request (i + 1) (nI_add i 1) rfl (by omega) ?_
  refine lw_c hZ sb_request 4 (pc2 := 1027) (L2 := [some (vR 10 0 0), some (vR 3 0 0), some (vR 7 0 0), some (vR 9 0 0), some (vI (nI i)), some (vI r), none, none, none]) (st2 := [vI (nI i + nI 2), vR 10 0 0, vI (zxs Z (i + 1)), vR 7 0 0]) (m2 := m3) rfl ?_
  refine lw_s hZ sb_request (i + 2) (nI_add i 2) rfl (by omega) ?_
  refine lw_c hZ sb_request 4 (pc2 := 1033) (L2 := [some (vR 10 0 0), some (vR 3 0 0), some (vR 7 0 0), some (vR 9 0 0), some (vI (nI i)), some (vI r), none, none, none]) (st2 := [vI (nI i + nI 3), vR 10 0 0, vI (zxs Z (i + 2)), vI (zxs Z (i + 1)), vR 7 0 0]) (m2 := m3) rfl ?_
  refine lw_s hZ sb_request (i + 3) (nI_add i 3) rfl (by omega) ?_
  refine lw_call hZ (M2 := MX5_request) [vI (zxs Z (i + 1)), vI (zxs Z (i + 2)), vI (zxs Z (i + 3))] (rest := []) hr (sub_at sb_request rfl) rfl rfl rfl rfl rfl ?_
  refine lw_c hZ sb_request 2 (pc2 := 1040) (L2 := [some (vR 10 0 0), some (vR 3 0 0), some (vR 7 0 0), some (vR 9 0 0), some (vI (nI i)), some (vI r), some (vI b), none, none]) (st2 := [vR 7 0 0]) (m2 := m4) rfl ?_
  refine lw_call hZ (M2 := MX5_thrown) [] (rest := []) (r_X5_thrown m4) (sub_at sb_request rfl) rfl rfl rfl rfl rfl ?_
  refine lw_c hZ sb_request 2 (pc2 := if m4.1 7 0 0 5 = r then 1050 else 1048) (L2 := [some (vR 10 0 0), some (vR 3 0 0), some (vR 7 0 0), some (vR 9 0 0), some (vI (nI i)), some (vI r), some (vI b), none, none]) (st2 := []) (m2 := m4) rfl ?_
  refine lw_t ht ?_
  have fin : LW Z n 1067 [some (vR 10 0 0), some (vR 3 0 0), some (vR 7 0 0), some (vR 9 0 0), some (vI (nI i)), some (vI r), some (vI b), none, none] [] m4 := by
    refine lw_c hZ sb_request 1 (pc2 := 1522) (L2 := [some (vR 10 0 0), some (vR 3 0 0), some (vR 7 0 0), some (vR 9 0 0), some (vI (nI i)), some (vI r), some (vI b), none, none]) (st2 := []) (m2 := m4) rfl ?_
    exact lc_end hZ (kk m4 s2 l2 hW)
  refine lw_c hZ sb_request 2 (pc2 := if ¬ r = 0 then 1067 else 1055) (L2 := [some (vR 10 0 0), some (vR 3 0 0), some (vR 7 0 0), some (vR 9 0 0), some (vI (nI i)), some (vI r), some (vI b), none, none]) (st2 := []) (m2 := m4) rfl ?_
  by_cases hk : r = 0
  · refine lw_f (fun q => q hk) ?_
    refine lw_c hZ sb_request 7 (pc2 := if lg_cmp (m4.2 9 0 0 0) b.toInt64 = 0 then 1067 else 1065) (L2 := [some (vR 10 0 0), some (vR 3 0 0), some (vR 7 0 0), some (vR 9 0 0), some (vI (nI i)), some (vI r), some (vI b), none, none]) (st2 := []) (m2 := m4) rfl ?_
    refine lw_t (by rw [h0 hk]; exact lg_same _) fin
  · exact lw_t hk fin
def T_count : List (Nat × Instr × Nat) := [(1070, .aload_n 1, 1), (1071, .aload_n 0, 1), (1072, .iload 4, 2), (1074, .iconst 1, 1), (1075, .iadd, 1), (1076, .iaload, 1), (1077, .aload_n 3, 1), (1078, .invokestatic 143, 3), (1081, .istore 5, 2), (1083, .aload_n 2, 1), (1084, .aload_n 0, 1), (1085, .iload 4, 2), (1087, .iconst 1, 1), (1088, .iadd, 1), (1089, .iaload, 1), (1090, .invokevirtual 145, 3), (1093, .istore 6, 2), (1095, .aload_n 2, 1), (1096, .invokevirtual 90, 3), (1099, .iload 5, 2), (1101, .if_icmp .eq 5, 3), (1104, .iconst 0, 1), (1105, .ireturn, 1), (1106, .iload 5, 2), (1108, .ifCond .ne 15, 3), (1111, .aload_n 3, 1), (1112, .iconst 0, 1), (1113, .laload, 1), (1114, .iload 6, 2), (1116, .i2l, 1), (1117, .lcmp, 1), (1118, .ifCond .eq 5, 3), (1121, .iconst 0, 1), (1122, .ireturn, 1), (1123, .goto 399, 3)]
set_option maxRecDepth 100000 in
theorem sb_count : subB T_count = true := by decide +kernel
set_option maxRecDepth 100000 in
theorem wl_count : wlG 143 ML_count (hhO 9 hs_count) = true := by decide +kernel
theorem lc_count (hZ : LOK Z) (hdcL : ∀ M ∈ WL, dcG M) {i s len K : Nat} (hi : i + 5 ≤ zL9 Z) (H : WR m m s len K) (kk : ∀ m4 s2 l2, WR m4 m4 s2 l2 (K + 20) → LW Z n 23 (LLi (i + 5)) [] m4) : LW Z (n + 1) 1070 (LLi i) [] m := by
  obtain ⟨b, m4, s2, l2, hr, hW, ht, h0⟩ := st_count H (zxs Z (i + 1))
  show LW Z (n + 1) 1070 [some (vR 10 0 0), some (vR 3 0 0), some (vR 7 0 0), some (vR 9 0 0), some (vI (nI i)), none, none, none, none] [] m
  refine lw_c hZ sb_count 5 (pc2 := 1076) (L2 := [some (vR 10 0 0), some (vR 3 0 0), some (vR 7 0 0), some (vR 9 0 0), some (vI (nI i)), none, none, none, none]) (st2 := [vI (nI i + nI 1), vR 10 0 0, vR 3 0 0]) (m2 := m) rfl ?_
  refine lw_s hZ sb_count (i + 1) (nI_add i 1) rfl (by omega) ?_
  refine lw_c hZ sb_count 1 (pc2 := 1078) (L2 := [some (vR 10 0 0), some (vR 3 0 0), some (vR 7 0 0), some (vR 9 0 0), some (vI (nI i)), none, none, none, none]) (st2 := [vR 9 0 0, vI (zxs Z (i + 1)), vR 3 0 0]) (m2 := m) rfl ?_
  refine lw_wrap hZ (M := ML_count) (x := 143) (as := [vR 3 0 0, vI (zxs Z (i + 1)), vR 9 0 0]) wl_count ?_ rfl (by decide) (fun hD => mw_count hZ.1 hZ.2.1 hZ.2.2.1 hZ.2.2.2.1 (hdcL _ (List.mem_of_getElem? (i := 14) rfl)) hD (zxs Z (i + 1))) (sub_at sb_count rfl) rfl ?_
  · intro u hu
    simp only [List.mem_cons, List.not_mem_nil, or_false] at hu
    rcases hu with rfl | rfl | rfl <;> rfl
  generalize (wo (e3 0 1 0) (o_X4_count m (zxs Z (i + 1))) m) = W at *
  obtain ⟨r, m3⟩ := W
  dsimp only at hr ht h0 ⊢
  refine lw_c hZ sb_count 6 (pc2 := 1089) (L2 := [some (vR 10 0 0), some (vR 3 0 0), some (vR 7 0 0), some (vR 9 0 0), some (vI (nI i)), some (vI r), none, none, none]) (st2 := [vI (nI i + nI 1), vR 10 0 0, vR 7 0 0]) (m2 := m3) rfl ?_
  refine lw_s hZ sb_count (i + 1) (nI_add i 1) rfl (by omega) ?_
  refine lw_call hZ (M2 := MX5_count) [vI (zxs Z (i + 1))] (rest := []) hr (sub_at sb_count rfl) rfl rfl rfl rfl rfl ?_
  refine lw_c hZ sb_count 2 (pc2 := 1096) (L2 := [some (vR 10 0 0), some (vR 3 0 0), some (vR 7 0 0), some (vR 9 0 0), some (vI (nI i)), some (vI r), some (vI b), none, none]) (st2 := [vR 7 0 0]) (m2 := m4) rfl ?_
  refine lw_call hZ (M2 := MX5_thrown) [] (rest := []) (r_X5_thrown m4) (sub_at sb_count rfl) rfl rfl rfl rfl rfl ?_
  refine lw_c hZ sb_count 2 (pc2 := if m4.1 7 0 0 5 = r then 1106 else 1104) (L2 := [some (vR 10 0 0), some (vR 3 0 0), some (vR 7 0 0), some (vR 9 0 0), some (vI (nI i)), some (vI r), some (vI b), none, none]) (st2 := []) (m2 := m4) rfl ?_
  refine lw_t ht ?_
  have fin : LW Z n 1123 [some (vR 10 0 0), some (vR 3 0 0), some (vR 7 0 0), some (vR 9 0 0), some (vI (nI i)), some (vI r), some (vI b), none, none] [] m4 := by
    refine lw_c hZ sb_count 1 (pc2 := 1522) (L2 := [some (vR 10 0 0), some (vR 3 0 0), some (vR 7 0 0), some (vR 9 0 0), some (vI (nI i)), some (vI r), some (vI b), none, none]) (st2 := []) (m2 := m4) rfl ?_
    exact lc_end hZ (kk m4 s2 l2 hW)
  refine lw_c hZ sb_count 2 (pc2 := if ¬ r = 0 then 1123 else 1111) (L2 := [some (vR 10 0 0), some (vR 3 0 0), some (vR 7 0 0), some (vR 9 0 0), some (vI (nI i)), some (vI r), some (vI b), none, none]) (st2 := []) (m2 := m4) rfl ?_
  by_cases hk : r = 0
  · refine lw_f (fun q => q hk) ?_
    refine lw_c hZ sb_count 7 (pc2 := if lg_cmp (m4.2 9 0 0 0) b.toInt64 = 0 then 1123 else 1121) (L2 := [some (vR 10 0 0), some (vR 3 0 0), some (vR 7 0 0), some (vR 9 0 0), some (vI (nI i)), some (vI r), some (vI b), none, none]) (st2 := []) (m2 := m4) rfl ?_
    refine lw_t (by rw [h0 hk]; exact lg_same _) fin
  · exact lw_t hk fin
def T_setting : List (Nat × Instr × Nat) := [(1126, .aload_n 1, 1), (1127, .aload_n 0, 1), (1128, .iload 4, 2), (1130, .iconst 1, 1), (1131, .iadd, 1), (1132, .iaload, 1), (1133, .aload_n 3, 1), (1134, .invokestatic 146, 3), (1137, .istore 5, 2), (1139, .aload_n 2, 1), (1140, .aload_n 0, 1), (1141, .iload 4, 2), (1143, .iconst 1, 1), (1144, .iadd, 1), (1145, .iaload, 1), (1146, .invokevirtual 148, 3), (1149, .istore 6, 2), (1151, .aload_n 2, 1), (1152, .invokevirtual 90, 3), (1155, .iload 5, 2), (1157, .if_icmp .eq 5, 3), (1160, .iconst 0, 1), (1161, .ireturn, 1), (1162, .iload 5, 2), (1164, .ifCond .ne 15, 3), (1167, .aload_n 3, 1), (1168, .iconst 0, 1), (1169, .laload, 1), (1170, .iload 6, 2), (1172, .i2l, 1), (1173, .lcmp, 1), (1174, .ifCond .eq 5, 3), (1177, .iconst 0, 1), (1178, .ireturn, 1), (1179, .goto 343, 3)]
set_option maxRecDepth 100000 in
theorem sb_setting : subB T_setting = true := by decide +kernel
set_option maxRecDepth 100000 in
theorem wl_setting : wlG 146 ML_setting (hhO 9 hs_setting) = true := by decide +kernel
theorem lc_setting (hZ : LOK Z) (hdcL : ∀ M ∈ WL, dcG M) {i s len K : Nat} (hi : i + 5 ≤ zL9 Z) (H : WR m m s len K) (kk : ∀ m4 s2 l2, WR m4 m4 s2 l2 (K + 20) → LW Z n 23 (LLi (i + 5)) [] m4) : LW Z (n + 1) 1126 (LLi i) [] m := by
  obtain ⟨b, m4, s2, l2, hr, hW, ht, h0⟩ := st_setting H (zxs Z (i + 1))
  show LW Z (n + 1) 1126 [some (vR 10 0 0), some (vR 3 0 0), some (vR 7 0 0), some (vR 9 0 0), some (vI (nI i)), none, none, none, none] [] m
  refine lw_c hZ sb_setting 5 (pc2 := 1132) (L2 := [some (vR 10 0 0), some (vR 3 0 0), some (vR 7 0 0), some (vR 9 0 0), some (vI (nI i)), none, none, none, none]) (st2 := [vI (nI i + nI 1), vR 10 0 0, vR 3 0 0]) (m2 := m) rfl ?_
  refine lw_s hZ sb_setting (i + 1) (nI_add i 1) rfl (by omega) ?_
  refine lw_c hZ sb_setting 1 (pc2 := 1134) (L2 := [some (vR 10 0 0), some (vR 3 0 0), some (vR 7 0 0), some (vR 9 0 0), some (vI (nI i)), none, none, none, none]) (st2 := [vR 9 0 0, vI (zxs Z (i + 1)), vR 3 0 0]) (m2 := m) rfl ?_
  refine lw_wrap hZ (M := ML_setting) (x := 146) (as := [vR 3 0 0, vI (zxs Z (i + 1)), vR 9 0 0]) wl_setting ?_ rfl (by decide) (fun hD => mw_setting hZ.1 hZ.2.1 hZ.2.2.1 hZ.2.2.2.1 (hdcL _ (List.mem_of_getElem? (i := 15) rfl)) hD (zxs Z (i + 1))) (sub_at sb_setting rfl) rfl ?_
  · intro u hu
    simp only [List.mem_cons, List.not_mem_nil, or_false] at hu
    rcases hu with rfl | rfl | rfl <;> rfl
  generalize (wo (e3 1 0 0) (o_X4_setting m (zxs Z (i + 1))) m) = W at *
  obtain ⟨r, m3⟩ := W
  dsimp only at hr ht h0 ⊢
  refine lw_c hZ sb_setting 6 (pc2 := 1145) (L2 := [some (vR 10 0 0), some (vR 3 0 0), some (vR 7 0 0), some (vR 9 0 0), some (vI (nI i)), some (vI r), none, none, none]) (st2 := [vI (nI i + nI 1), vR 10 0 0, vR 7 0 0]) (m2 := m3) rfl ?_
  refine lw_s hZ sb_setting (i + 1) (nI_add i 1) rfl (by omega) ?_
  refine lw_call hZ (M2 := MX5_setting) [vI (zxs Z (i + 1))] (rest := []) hr (sub_at sb_setting rfl) rfl rfl rfl rfl rfl ?_
  refine lw_c hZ sb_setting 2 (pc2 := 1152) (L2 := [some (vR 10 0 0), some (vR 3 0 0), some (vR 7 0 0), some (vR 9 0 0), some (vI (nI i)), some (vI r), some (vI b), none, none]) (st2 := [vR 7 0 0]) (m2 := m4) rfl ?_
  refine lw_call hZ (M2 := MX5_thrown) [] (rest := []) (r_X5_thrown m4) (sub_at sb_setting rfl) rfl rfl rfl rfl rfl ?_
  refine lw_c hZ sb_setting 2 (pc2 := if m4.1 7 0 0 5 = r then 1162 else 1160) (L2 := [some (vR 10 0 0), some (vR 3 0 0), some (vR 7 0 0), some (vR 9 0 0), some (vI (nI i)), some (vI r), some (vI b), none, none]) (st2 := []) (m2 := m4) rfl ?_
  refine lw_t ht ?_
  have fin : LW Z n 1179 [some (vR 10 0 0), some (vR 3 0 0), some (vR 7 0 0), some (vR 9 0 0), some (vI (nI i)), some (vI r), some (vI b), none, none] [] m4 := by
    refine lw_c hZ sb_setting 1 (pc2 := 1522) (L2 := [some (vR 10 0 0), some (vR 3 0 0), some (vR 7 0 0), some (vR 9 0 0), some (vI (nI i)), some (vI r), some (vI b), none, none]) (st2 := []) (m2 := m4) rfl ?_
    exact lc_end hZ (kk m4 s2 l2 hW)
  refine lw_c hZ sb_setting 2 (pc2 := if ¬ r = 0 then 1179 else 1167) (L2 := [some (vR 10 0 0), some (vR 3 0 0), some (vR 7 0 0), some (vR 9 0 0), some (vI (nI i)), some (vI r), some (vI b), none, none]) (st2 := []) (m2 := m4) rfl ?_
  by_cases hk : r = 0
  · refine lw_f (fun q => q hk) ?_
    refine lw_c hZ sb_setting 7 (pc2 := if lg_cmp (m4.2 9 0 0 0) b.toInt64 = 0 then 1179 else 1177) (L2 := [some (vR 10 0 0), some (vR 3 0 0), some (vR 7 0 0), some (vR 9 0 0), some (vI (nI i)), some (vI r), some (vI b), none, none]) (st2 := []) (m2 := m4) rfl ?_
    refine lw_t (by rw [h0 hk]; exact lg_same _) fin
  · exact lw_t hk fin
def T_ifAsked : List (Nat × Instr × Nat) := [(1182, .aload_n 1, 1), (1183, .aload_n 0, 1), (1184, .iload 4, 2), (1186, .iconst 1, 1), (1187, .iadd, 1), (1188, .iaload, 1), (1189, .aload_n 0, 1), (1190, .iload 4, 2), (1192, .iconst 2, 1), (1193, .iadd, 1), (1194, .iaload, 1), (1195, .aload_n 0, 1), (1196, .iload 4, 2), (1198, .iconst 3, 1), (1199, .iadd, 1), (1200, .iaload, 1), (1201, .aload_n 0, 1), (1202, .iload 4, 2), (1204, .iconst 4, 1), (1205, .iadd, 1), (1206, .iaload, 1), (1207, .aload_n 3, 1), (1208, .invokestatic 149, 3), (1211, .istore 5, 2), (1213, .aload_n 2, 1), (1214, .aload_n 0, 1), (1215, .iload 4, 2), (1217, .iconst 1, 1), (1218, .iadd, 1), (1219, .iaload, 1), (1220, .aload_n 0, 1), (1221, .iload 4, 2), (1223, .iconst 2, 1), (1224, .iadd, 1), (1225, .iaload, 1), (1226, .aload_n 0, 1), (1227, .iload 4, 2), (1229, .iconst 3, 1), (1230, .iadd, 1), (1231, .iaload, 1), (1232, .aload_n 0, 1), (1233, .iload 4, 2), (1235, .iconst 4, 1), (1236, .iadd, 1), (1237, .iaload, 1), (1238, .invokevirtual 152, 3), (1241, .istore 6, 2), (1243, .aload_n 2, 1), (1244, .invokevirtual 90, 3), (1247, .iload 5, 2), (1249, .if_icmp .eq 5, 3), (1252, .iconst 0, 1), (1253, .ireturn, 1), (1254, .iload 5, 2), (1256, .ifCond .ne 15, 3), (1259, .aload_n 3, 1), (1260, .iconst 0, 1), (1261, .laload, 1), (1262, .iload 6, 2), (1264, .i2l, 1), (1265, .lcmp, 1), (1266, .ifCond .eq 5, 3), (1269, .iconst 0, 1), (1270, .ireturn, 1), (1271, .goto 251, 3)]
set_option maxRecDepth 100000 in
theorem sb_ifAsked : subB T_ifAsked = true := by decide +kernel
set_option maxRecDepth 100000 in
theorem wl_ifAsked : wlG 149 ML_ifAsked (hhO 14 hs_ifAsked) = true := by decide +kernel
theorem lc_ifAsked (hZ : LOK Z) (hdcL : ∀ M ∈ WL, dcG M) {i s len K : Nat} (hi : i + 5 ≤ zL9 Z) (H : WR m m s len K) (kk : ∀ m4 s2 l2, WR m4 m4 s2 l2 (K + 20) → LW Z n 23 (LLi (i + 5)) [] m4) : LW Z (n + 1) 1182 (LLi i) [] m := by
  obtain ⟨b, m4, s2, l2, hr, hW, ht, h0⟩ := st_ifAsked H (zxs Z (i + 1)) (zxs Z (i + 2)) (zxs Z (i + 3)) (zxs Z (i + 4))
  show LW Z (n + 1) 1182 [some (vR 10 0 0), some (vR 3 0 0), some (vR 7 0 0), some (vR 9 0 0), some (vI (nI i)), none, none, none, none] [] m
  refine lw_c hZ sb_ifAsked 5 (pc2 := 1188) (L2 := [some (vR 10 0 0), some (vR 3 0 0), some (vR 7 0 0), some (vR 9 0 0), some (vI (nI i)), none, none, none, none]) (st2 := [vI (nI i + nI 1), vR 10 0 0, vR 3 0 0]) (m2 := m) rfl ?_
  refine lw_s hZ sb_ifAsked (i + 1) (nI_add i 1) rfl (by omega) ?_
  refine lw_c hZ sb_ifAsked 4 (pc2 := 1194) (L2 := [some (vR 10 0 0), some (vR 3 0 0), some (vR 7 0 0), some (vR 9 0 0), some (vI (nI i)), none, none, none, none]) (st2 := [vI (nI i + nI 2), vR 10 0 0, vI (zxs Z (i + 1)), vR 3 0 0]) (m2 := m) rfl ?_
  refine lw_s hZ sb_ifAsked (i + 2) (nI_add i 2) rfl (by omega) ?_
  refine lw_c hZ sb_ifAsked 4 (pc2 := 1200) (L2 := [some (vR 10 0 0), some (vR 3 0 0), some (vR 7 0 0), some (vR 9 0 0), some (vI (nI i)), none, none, none, none]) (st2 := [vI (nI i + nI 3), vR 10 0 0, vI (zxs Z (i + 2)), vI (zxs Z (i + 1)), vR 3 0 0]) (m2 := m) rfl ?_
  refine lw_s hZ sb_ifAsked (i + 3) (nI_add i 3) rfl (by omega) ?_
  refine lw_c hZ sb_ifAsked 4 (pc2 := 1206) (L2 := [some (vR 10 0 0), some (vR 3 0 0), some (vR 7 0 0), some (vR 9 0 0), some (vI (nI i)), none, none, none, none]) (st2 := [vI (nI i + nI 4), vR 10 0 0, vI (zxs Z (i + 3)), vI (zxs Z (i + 2)), vI (zxs Z (i + 1)), vR 3 0 0]) (m2 := m) rfl ?_
  refine lw_s hZ sb_ifAsked (i + 4) (nI_add i 4) rfl (by omega) ?_
  refine lw_c hZ sb_ifAsked 1 (pc2 := 1208) (L2 := [some (vR 10 0 0), some (vR 3 0 0), some (vR 7 0 0), some (vR 9 0 0), some (vI (nI i)), none, none, none, none]) (st2 := [vR 9 0 0, vI (zxs Z (i + 4)), vI (zxs Z (i + 3)), vI (zxs Z (i + 2)), vI (zxs Z (i + 1)), vR 3 0 0]) (m2 := m) rfl ?_
  refine lw_wrap hZ (M := ML_ifAsked) (x := 149) (as := [vR 3 0 0, vI (zxs Z (i + 1)), vI (zxs Z (i + 2)), vI (zxs Z (i + 3)), vI (zxs Z (i + 4)), vR 9 0 0]) wl_ifAsked ?_ rfl (by decide) (fun hD => mw_ifAsked hZ.1 hZ.2.1 hZ.2.2.1 hZ.2.2.2.1 (hdcL _ (List.mem_of_getElem? (i := 16) rfl)) hD (zxs Z (i + 1)) (zxs Z (i + 2)) (zxs Z (i + 3)) (zxs Z (i + 4))) (sub_at sb_ifAsked rfl) rfl ?_
  · intro u hu
    simp only [List.mem_cons, List.not_mem_nil, or_false] at hu
    rcases hu with rfl | rfl | rfl | rfl | rfl | rfl <;> rfl
  generalize (wo (e3 1 2 0) (o_X4_ifAsked m (zxs Z (i + 1)) (zxs Z (i + 2)) (zxs Z (i + 3)) (zxs Z (i + 4))) (w_X4_ifAsked m (zxs Z (i + 1)) (zxs Z (i + 2)) (zxs Z (i + 3)) (zxs Z (i + 4)))) = W at *
  obtain ⟨r, m3⟩ := W
  dsimp only at hr ht h0 ⊢
  refine lw_c hZ sb_ifAsked 6 (pc2 := 1219) (L2 := [some (vR 10 0 0), some (vR 3 0 0), some (vR 7 0 0), some (vR 9 0 0), some (vI (nI i)), some (vI r), none, none, none]) (st2 := [vI (nI i + nI 1), vR 10 0 0, vR 7 0 0]) (m2 := m3) rfl ?_
  refine lw_s hZ sb_ifAsked (i + 1) (nI_add i 1) rfl (by omega) ?_
  refine lw_c hZ sb_ifAsked 4 (pc2 := 1225) (L2 := [some (vR 10 0 0), some (vR 3 0 0), some (vR 7 0 0), some (vR 9 0 0), some (vI (nI i)), some (vI r), none, none, none]) (st2 := [vI (nI i + nI 2), vR 10 0 0, vI (zxs Z (i + 1)), vR 7 0 0]) (m2 := m3) rfl ?_
  refine lw_s hZ sb_ifAsked (i + 2) (nI_add i 2) rfl (by omega) ?_
  refine lw_c hZ sb_ifAsked 4 (pc2 := 1231) (L2 := [some (vR 10 0 0), some (vR 3 0 0), some (vR 7 0 0), some (vR 9 0 0), some (vI (nI i)), some (vI r), none, none, none]) (st2 := [vI (nI i + nI 3), vR 10 0 0, vI (zxs Z (i + 2)), vI (zxs Z (i + 1)), vR 7 0 0]) (m2 := m3) rfl ?_
  refine lw_s hZ sb_ifAsked (i + 3) (nI_add i 3) rfl (by omega) ?_
  refine lw_c hZ sb_ifAsked 4 (pc2 := 1237) (L2 := [some (vR 10 0 0), some (vR 3 0 0), some (vR 7 0 0), some (vR 9 0 0), some (vI (nI i)), some (vI r), none, none, none]) (st2 := [vI (nI i + nI 4), vR 10 0 0, vI (zxs Z (i + 3)), vI (zxs Z (i + 2)), vI (zxs Z (i + 1)), vR 7 0 0]) (m2 := m3) rfl ?_
  refine lw_s hZ sb_ifAsked (i + 4) (nI_add i 4) rfl (by omega) ?_
  refine lw_call hZ (M2 := MX5_ifAsked) [vI (zxs Z (i + 1)), vI (zxs Z (i + 2)), vI (zxs Z (i + 3)), vI (zxs Z (i + 4))] (rest := []) hr (sub_at sb_ifAsked rfl) rfl rfl rfl rfl rfl ?_
  refine lw_c hZ sb_ifAsked 2 (pc2 := 1244) (L2 := [some (vR 10 0 0), some (vR 3 0 0), some (vR 7 0 0), some (vR 9 0 0), some (vI (nI i)), some (vI r), some (vI b), none, none]) (st2 := [vR 7 0 0]) (m2 := m4) rfl ?_
  refine lw_call hZ (M2 := MX5_thrown) [] (rest := []) (r_X5_thrown m4) (sub_at sb_ifAsked rfl) rfl rfl rfl rfl rfl ?_
  refine lw_c hZ sb_ifAsked 2 (pc2 := if m4.1 7 0 0 5 = r then 1254 else 1252) (L2 := [some (vR 10 0 0), some (vR 3 0 0), some (vR 7 0 0), some (vR 9 0 0), some (vI (nI i)), some (vI r), some (vI b), none, none]) (st2 := []) (m2 := m4) rfl ?_
  refine lw_t ht ?_
  have fin : LW Z n 1271 [some (vR 10 0 0), some (vR 3 0 0), some (vR 7 0 0), some (vR 9 0 0), some (vI (nI i)), some (vI r), some (vI b), none, none] [] m4 := by
    refine lw_c hZ sb_ifAsked 1 (pc2 := 1522) (L2 := [some (vR 10 0 0), some (vR 3 0 0), some (vR 7 0 0), some (vR 9 0 0), some (vI (nI i)), some (vI r), some (vI b), none, none]) (st2 := []) (m2 := m4) rfl ?_
    exact lc_end hZ (kk m4 s2 l2 hW)
  refine lw_c hZ sb_ifAsked 2 (pc2 := if ¬ r = 0 then 1271 else 1259) (L2 := [some (vR 10 0 0), some (vR 3 0 0), some (vR 7 0 0), some (vR 9 0 0), some (vI (nI i)), some (vI r), some (vI b), none, none]) (st2 := []) (m2 := m4) rfl ?_
  by_cases hk : r = 0
  · refine lw_f (fun q => q hk) ?_
    refine lw_c hZ sb_ifAsked 7 (pc2 := if lg_cmp (m4.2 9 0 0 0) b.toInt64 = 0 then 1271 else 1269) (L2 := [some (vR 10 0 0), some (vR 3 0 0), some (vR 7 0 0), some (vR 9 0 0), some (vI (nI i)), some (vI r), some (vI b), none, none]) (st2 := []) (m2 := m4) rfl ?_
    refine lw_t (by rw [h0 hk]; exact lg_same _) fin
  · exact lw_t hk fin
def T_takers : List (Nat × Instr × Nat) := [(1274, .aload_n 1, 1), (1275, .aload_n 0, 1), (1276, .iload 4, 2), (1278, .iconst 1, 1), (1279, .iadd, 1), (1280, .iaload, 1), (1281, .aload_n 0, 1), (1282, .iload 4, 2), (1284, .iconst 2, 1), (1285, .iadd, 1), (1286, .iaload, 1), (1287, .aload_n 3, 1), (1288, .invokestatic 153, 3), (1291, .istore 5, 2), (1293, .aload_n 2, 1), (1294, .aload_n 0, 1), (1295, .iload 4, 2), (1297, .iconst 1, 1), (1298, .iadd, 1), (1299, .iaload, 1), (1300, .aload_n 0, 1), (1301, .iload 4, 2), (1303, .iconst 2, 1), (1304, .iadd, 1), (1305, .iaload, 1), (1306, .invokevirtual 155, 3), (1309, .istore 6, 2), (1311, .aload_n 2, 1), (1312, .invokevirtual 90, 3), (1315, .iload 5, 2), (1317, .if_icmp .eq 5, 3), (1320, .iconst 0, 1), (1321, .ireturn, 1), (1322, .iload 5, 2), (1324, .ifCond .ne 15, 3), (1327, .aload_n 3, 1), (1328, .iconst 0, 1), (1329, .laload, 1), (1330, .iload 6, 2), (1332, .i2l, 1), (1333, .lcmp, 1), (1334, .ifCond .eq 5, 3), (1337, .iconst 0, 1), (1338, .ireturn, 1), (1339, .goto 183, 3)]
set_option maxRecDepth 100000 in
theorem sb_takers : subB T_takers = true := by decide +kernel
set_option maxRecDepth 100000 in
theorem wl_takers : wlG 153 ML_takers (hhO 10 hs_takers) = true := by decide +kernel
theorem lc_takers (hZ : LOK Z) (hdcL : ∀ M ∈ WL, dcG M) {i s len K : Nat} (hi : i + 5 ≤ zL9 Z) (H : WR m m s len K) (kk : ∀ m4 s2 l2, WR m4 m4 s2 l2 (K + 20) → LW Z n 23 (LLi (i + 5)) [] m4) : LW Z (n + 1) 1274 (LLi i) [] m := by
  obtain ⟨b, m4, s2, l2, hr, hW, ht, h0⟩ := st_takers H (zxs Z (i + 1)) (zxs Z (i + 2))
  show LW Z (n + 1) 1274 [some (vR 10 0 0), some (vR 3 0 0), some (vR 7 0 0), some (vR 9 0 0), some (vI (nI i)), none, none, none, none] [] m
  refine lw_c hZ sb_takers 5 (pc2 := 1280) (L2 := [some (vR 10 0 0), some (vR 3 0 0), some (vR 7 0 0), some (vR 9 0 0), some (vI (nI i)), none, none, none, none]) (st2 := [vI (nI i + nI 1), vR 10 0 0, vR 3 0 0]) (m2 := m) rfl ?_
  refine lw_s hZ sb_takers (i + 1) (nI_add i 1) rfl (by omega) ?_
  refine lw_c hZ sb_takers 4 (pc2 := 1286) (L2 := [some (vR 10 0 0), some (vR 3 0 0), some (vR 7 0 0), some (vR 9 0 0), some (vI (nI i)), none, none, none, none]) (st2 := [vI (nI i + nI 2), vR 10 0 0, vI (zxs Z (i + 1)), vR 3 0 0]) (m2 := m) rfl ?_
  refine lw_s hZ sb_takers (i + 2) (nI_add i 2) rfl (by omega) ?_
  refine lw_c hZ sb_takers 1 (pc2 := 1288) (L2 := [some (vR 10 0 0), some (vR 3 0 0), some (vR 7 0 0), some (vR 9 0 0), some (vI (nI i)), none, none, none, none]) (st2 := [vR 9 0 0, vI (zxs Z (i + 2)), vI (zxs Z (i + 1)), vR 3 0 0]) (m2 := m) rfl ?_
  refine lw_wrap hZ (M := ML_takers) (x := 153) (as := [vR 3 0 0, vI (zxs Z (i + 1)), vI (zxs Z (i + 2)), vR 9 0 0]) wl_takers ?_ rfl (by decide) (fun hD => mw_takers hZ.1 hZ.2.1 hZ.2.2.1 hZ.2.2.2.1 (hdcL _ (List.mem_of_getElem? (i := 17) rfl)) hD (zxs Z (i + 1)) (zxs Z (i + 2))) (sub_at sb_takers rfl) rfl ?_
  · intro u hu
    simp only [List.mem_cons, List.not_mem_nil, or_false] at hu
    rcases hu with rfl | rfl | rfl | rfl <;> rfl
  generalize (wo (e3 1 0 0) (o_X4_takers m (zxs Z (i + 1)) (zxs Z (i + 2))) m) = W at *
  obtain ⟨r, m3⟩ := W
  dsimp only at hr ht h0 ⊢
  refine lw_c hZ sb_takers 6 (pc2 := 1299) (L2 := [some (vR 10 0 0), some (vR 3 0 0), some (vR 7 0 0), some (vR 9 0 0), some (vI (nI i)), some (vI r), none, none, none]) (st2 := [vI (nI i + nI 1), vR 10 0 0, vR 7 0 0]) (m2 := m3) rfl ?_
  refine lw_s hZ sb_takers (i + 1) (nI_add i 1) rfl (by omega) ?_
  refine lw_c hZ sb_takers 4 (pc2 := 1305) (L2 := [some (vR 10 0 0), some (vR 3 0 0), some (vR 7 0 0), some (vR 9 0 0), some (vI (nI i)), some (vI r), none, none, none]) (st2 := [vI (nI i + nI 2), vR 10 0 0, vI (zxs Z (i + 1)), vR 7 0 0]) (m2 := m3) rfl ?_
  refine lw_s hZ sb_takers (i + 2) (nI_add i 2) rfl (by omega) ?_
  refine lw_call hZ (M2 := MX5_takers) [vI (zxs Z (i + 1)), vI (zxs Z (i + 2))] (rest := []) hr (sub_at sb_takers rfl) rfl rfl rfl rfl rfl ?_
  refine lw_c hZ sb_takers 2 (pc2 := 1312) (L2 := [some (vR 10 0 0), some (vR 3 0 0), some (vR 7 0 0), some (vR 9 0 0), some (vI (nI i)), some (vI r), some (vI b), none, none]) (st2 := [vR 7 0 0]) (m2 := m4) rfl ?_
  refine lw_call hZ (M2 := MX5_thrown) [] (rest := []) (r_X5_thrown m4) (sub_at sb_takers rfl) rfl rfl rfl rfl rfl ?_
  refine lw_c hZ sb_takers 2 (pc2 := if m4.1 7 0 0 5 = r then 1322 else 1320) (L2 := [some (vR 10 0 0), some (vR 3 0 0), some (vR 7 0 0), some (vR 9 0 0), some (vI (nI i)), some (vI r), some (vI b), none, none]) (st2 := []) (m2 := m4) rfl ?_
  refine lw_t ht ?_
  have fin : LW Z n 1339 [some (vR 10 0 0), some (vR 3 0 0), some (vR 7 0 0), some (vR 9 0 0), some (vI (nI i)), some (vI r), some (vI b), none, none] [] m4 := by
    refine lw_c hZ sb_takers 1 (pc2 := 1522) (L2 := [some (vR 10 0 0), some (vR 3 0 0), some (vR 7 0 0), some (vR 9 0 0), some (vI (nI i)), some (vI r), some (vI b), none, none]) (st2 := []) (m2 := m4) rfl ?_
    exact lc_end hZ (kk m4 s2 l2 hW)
  refine lw_c hZ sb_takers 2 (pc2 := if ¬ r = 0 then 1339 else 1327) (L2 := [some (vR 10 0 0), some (vR 3 0 0), some (vR 7 0 0), some (vR 9 0 0), some (vI (nI i)), some (vI r), some (vI b), none, none]) (st2 := []) (m2 := m4) rfl ?_
  by_cases hk : r = 0
  · refine lw_f (fun q => q hk) ?_
    refine lw_c hZ sb_takers 7 (pc2 := if lg_cmp (m4.2 9 0 0 0) b.toInt64 = 0 then 1339 else 1337) (L2 := [some (vR 10 0 0), some (vR 3 0 0), some (vR 7 0 0), some (vR 9 0 0), some (vI (nI i)), some (vI r), some (vI b), none, none]) (st2 := []) (m2 := m4) rfl ?_
    refine lw_t (by rw [h0 hk]; exact lg_same _) fin
  · exact lw_t hk fin
def T_burnsIn : List (Nat × Instr × Nat) := [(1342, .aload_n 1, 1), (1343, .aload_n 0, 1), (1344, .iload 4, 2), (1346, .iconst 1, 1), (1347, .iadd, 1), (1348, .iaload, 1), (1349, .aload_n 3, 1), (1350, .invokestatic 156, 3), (1353, .istore 5, 2), (1355, .aload_n 2, 1), (1356, .aload_n 0, 1), (1357, .iload 4, 2), (1359, .iconst 1, 1), (1360, .iadd, 1), (1361, .iaload, 1), (1362, .invokevirtual 158, 3), (1365, .istore 6, 2), (1367, .aload_n 2, 1), (1368, .invokevirtual 90, 3), (1371, .iload 5, 2), (1373, .if_icmp .eq 5, 3), (1376, .iconst 0, 1), (1377, .ireturn, 1), (1378, .iload 5, 2), (1380, .ifCond .ne 15, 3), (1383, .aload_n 3, 1), (1384, .iconst 0, 1), (1385, .laload, 1), (1386, .iload 6, 2), (1388, .i2l, 1), (1389, .lcmp, 1), (1390, .ifCond .eq 5, 3), (1393, .iconst 0, 1), (1394, .ireturn, 1), (1395, .goto 127, 3)]
set_option maxRecDepth 100000 in
theorem sb_burnsIn : subB T_burnsIn = true := by decide +kernel
set_option maxRecDepth 100000 in
theorem wl_burnsIn : wlG 156 ML_burnsIn (hhO 9 hs_burnsIn) = true := by decide +kernel
theorem lc_burnsIn (hZ : LOK Z) (hdcL : ∀ M ∈ WL, dcG M) {i s len K : Nat} (hi : i + 5 ≤ zL9 Z) (H : WR m m s len K) (kk : ∀ m4 s2 l2, WR m4 m4 s2 l2 (K + 20) → LW Z n 23 (LLi (i + 5)) [] m4) : LW Z (n + 1) 1342 (LLi i) [] m := by
  obtain ⟨b, m4, s2, l2, hr, hW, ht, h0⟩ := st_burnsIn H (zxs Z (i + 1))
  show LW Z (n + 1) 1342 [some (vR 10 0 0), some (vR 3 0 0), some (vR 7 0 0), some (vR 9 0 0), some (vI (nI i)), none, none, none, none] [] m
  refine lw_c hZ sb_burnsIn 5 (pc2 := 1348) (L2 := [some (vR 10 0 0), some (vR 3 0 0), some (vR 7 0 0), some (vR 9 0 0), some (vI (nI i)), none, none, none, none]) (st2 := [vI (nI i + nI 1), vR 10 0 0, vR 3 0 0]) (m2 := m) rfl ?_
  refine lw_s hZ sb_burnsIn (i + 1) (nI_add i 1) rfl (by omega) ?_
  refine lw_c hZ sb_burnsIn 1 (pc2 := 1350) (L2 := [some (vR 10 0 0), some (vR 3 0 0), some (vR 7 0 0), some (vR 9 0 0), some (vI (nI i)), none, none, none, none]) (st2 := [vR 9 0 0, vI (zxs Z (i + 1)), vR 3 0 0]) (m2 := m) rfl ?_
  refine lw_wrap hZ (M := ML_burnsIn) (x := 156) (as := [vR 3 0 0, vI (zxs Z (i + 1)), vR 9 0 0]) wl_burnsIn ?_ rfl (by decide) (fun hD => mw_burnsIn hZ.1 hZ.2.1 hZ.2.2.1 hZ.2.2.2.1 (hdcL _ (List.mem_of_getElem? (i := 18) rfl)) hD (zxs Z (i + 1))) (sub_at sb_burnsIn rfl) rfl ?_
  · intro u hu
    simp only [List.mem_cons, List.not_mem_nil, or_false] at hu
    rcases hu with rfl | rfl | rfl <;> rfl
  generalize (wo (e3 1 0 0) (o_X4_burnsIn m (zxs Z (i + 1))) m) = W at *
  obtain ⟨r, m3⟩ := W
  dsimp only at hr ht h0 ⊢
  refine lw_c hZ sb_burnsIn 6 (pc2 := 1361) (L2 := [some (vR 10 0 0), some (vR 3 0 0), some (vR 7 0 0), some (vR 9 0 0), some (vI (nI i)), some (vI r), none, none, none]) (st2 := [vI (nI i + nI 1), vR 10 0 0, vR 7 0 0]) (m2 := m3) rfl ?_
  refine lw_s hZ sb_burnsIn (i + 1) (nI_add i 1) rfl (by omega) ?_
  refine lw_call hZ (M2 := MX5_burnsIn) [vI (zxs Z (i + 1))] (rest := []) hr (sub_at sb_burnsIn rfl) rfl rfl rfl rfl rfl ?_
  refine lw_c hZ sb_burnsIn 2 (pc2 := 1368) (L2 := [some (vR 10 0 0), some (vR 3 0 0), some (vR 7 0 0), some (vR 9 0 0), some (vI (nI i)), some (vI r), some (vI b), none, none]) (st2 := [vR 7 0 0]) (m2 := m4) rfl ?_
  refine lw_call hZ (M2 := MX5_thrown) [] (rest := []) (r_X5_thrown m4) (sub_at sb_burnsIn rfl) rfl rfl rfl rfl rfl ?_
  refine lw_c hZ sb_burnsIn 2 (pc2 := if m4.1 7 0 0 5 = r then 1378 else 1376) (L2 := [some (vR 10 0 0), some (vR 3 0 0), some (vR 7 0 0), some (vR 9 0 0), some (vI (nI i)), some (vI r), some (vI b), none, none]) (st2 := []) (m2 := m4) rfl ?_
  refine lw_t ht ?_
  have fin : LW Z n 1395 [some (vR 10 0 0), some (vR 3 0 0), some (vR 7 0 0), some (vR 9 0 0), some (vI (nI i)), some (vI r), some (vI b), none, none] [] m4 := by
    refine lw_c hZ sb_burnsIn 1 (pc2 := 1522) (L2 := [some (vR 10 0 0), some (vR 3 0 0), some (vR 7 0 0), some (vR 9 0 0), some (vI (nI i)), some (vI r), some (vI b), none, none]) (st2 := []) (m2 := m4) rfl ?_
    exact lc_end hZ (kk m4 s2 l2 hW)
  refine lw_c hZ sb_burnsIn 2 (pc2 := if ¬ r = 0 then 1395 else 1383) (L2 := [some (vR 10 0 0), some (vR 3 0 0), some (vR 7 0 0), some (vR 9 0 0), some (vI (nI i)), some (vI r), some (vI b), none, none]) (st2 := []) (m2 := m4) rfl ?_
  by_cases hk : r = 0
  · refine lw_f (fun q => q hk) ?_
    refine lw_c hZ sb_burnsIn 7 (pc2 := if lg_cmp (m4.2 9 0 0 0) b.toInt64 = 0 then 1395 else 1393) (L2 := [some (vR 10 0 0), some (vR 3 0 0), some (vR 7 0 0), some (vR 9 0 0), some (vI (nI i)), some (vI r), some (vI b), none, none]) (st2 := []) (m2 := m4) rfl ?_
    refine lw_t (by rw [h0 hk]; exact lg_same _) fin
  · exact lw_t hk fin
def T_waitsFor : List (Nat × Instr × Nat) := [(1398, .aload_n 1, 1), (1399, .aload_n 0, 1), (1400, .iload 4, 2), (1402, .iconst 1, 1), (1403, .iadd, 1), (1404, .iaload, 1), (1405, .aload_n 3, 1), (1406, .invokestatic 159, 3), (1409, .istore 5, 2), (1411, .aload_n 2, 1), (1412, .aload_n 0, 1), (1413, .iload 4, 2), (1415, .iconst 1, 1), (1416, .iadd, 1), (1417, .iaload, 1), (1418, .invokevirtual 161, 3), (1421, .istore 6, 2), (1423, .aload_n 2, 1), (1424, .invokevirtual 90, 3), (1427, .iload 5, 2), (1429, .if_icmp .eq 5, 3), (1432, .iconst 0, 1), (1433, .ireturn, 1), (1434, .iload 5, 2), (1436, .ifCond .ne 15, 3), (1439, .aload_n 3, 1), (1440, .iconst 0, 1), (1441, .laload, 1), (1442, .iload 6, 2), (1444, .i2l, 1), (1445, .lcmp, 1), (1446, .ifCond .eq 5, 3), (1449, .iconst 0, 1), (1450, .ireturn, 1), (1451, .goto 71, 3)]
set_option maxRecDepth 100000 in
theorem sb_waitsFor : subB T_waitsFor = true := by decide +kernel
set_option maxRecDepth 100000 in
theorem wl_waitsFor : wlG 159 ML_waitsFor (hhO 9 hs_waitsFor) = true := by decide +kernel
theorem lc_waitsFor (hZ : LOK Z) (hdcL : ∀ M ∈ WL, dcG M) {i s len K : Nat} (hi : i + 5 ≤ zL9 Z) (H : WR m m s len K) (kk : ∀ m4 s2 l2, WR m4 m4 s2 l2 (K + 20) → LW Z n 23 (LLi (i + 5)) [] m4) : LW Z (n + 1) 1398 (LLi i) [] m := by
  obtain ⟨b, m4, s2, l2, hr, hW, ht, h0⟩ := st_waitsFor H (zxs Z (i + 1))
  show LW Z (n + 1) 1398 [some (vR 10 0 0), some (vR 3 0 0), some (vR 7 0 0), some (vR 9 0 0), some (vI (nI i)), none, none, none, none] [] m
  refine lw_c hZ sb_waitsFor 5 (pc2 := 1404) (L2 := [some (vR 10 0 0), some (vR 3 0 0), some (vR 7 0 0), some (vR 9 0 0), some (vI (nI i)), none, none, none, none]) (st2 := [vI (nI i + nI 1), vR 10 0 0, vR 3 0 0]) (m2 := m) rfl ?_
  refine lw_s hZ sb_waitsFor (i + 1) (nI_add i 1) rfl (by omega) ?_
  refine lw_c hZ sb_waitsFor 1 (pc2 := 1406) (L2 := [some (vR 10 0 0), some (vR 3 0 0), some (vR 7 0 0), some (vR 9 0 0), some (vI (nI i)), none, none, none, none]) (st2 := [vR 9 0 0, vI (zxs Z (i + 1)), vR 3 0 0]) (m2 := m) rfl ?_
  refine lw_wrap hZ (M := ML_waitsFor) (x := 159) (as := [vR 3 0 0, vI (zxs Z (i + 1)), vR 9 0 0]) wl_waitsFor ?_ rfl (by decide) (fun hD => mw_waitsFor hZ.1 hZ.2.1 hZ.2.2.1 hZ.2.2.2.1 (hdcL _ (List.mem_of_getElem? (i := 19) rfl)) hD (zxs Z (i + 1))) (sub_at sb_waitsFor rfl) rfl ?_
  · intro u hu
    simp only [List.mem_cons, List.not_mem_nil, or_false] at hu
    rcases hu with rfl | rfl | rfl <;> rfl
  generalize (wo (e3 1 0 0) (o_X4_waitsFor m (zxs Z (i + 1))) m) = W at *
  obtain ⟨r, m3⟩ := W
  dsimp only at hr ht h0 ⊢
  refine lw_c hZ sb_waitsFor 6 (pc2 := 1417) (L2 := [some (vR 10 0 0), some (vR 3 0 0), some (vR 7 0 0), some (vR 9 0 0), some (vI (nI i)), some (vI r), none, none, none]) (st2 := [vI (nI i + nI 1), vR 10 0 0, vR 7 0 0]) (m2 := m3) rfl ?_
  refine lw_s hZ sb_waitsFor (i + 1) (nI_add i 1) rfl (by omega) ?_
  refine lw_call hZ (M2 := MX5_waitsFor) [vI (zxs Z (i + 1))] (rest := []) hr (sub_at sb_waitsFor rfl) rfl rfl rfl rfl rfl ?_
  refine lw_c hZ sb_waitsFor 2 (pc2 := 1424) (L2 := [some (vR 10 0 0), some (vR 3 0 0), some (vR 7 0 0), some (vR 9 0 0), some (vI (nI i)), some (vI r), some (vI b), none, none]) (st2 := [vR 7 0 0]) (m2 := m4) rfl ?_
  refine lw_call hZ (M2 := MX5_thrown) [] (rest := []) (r_X5_thrown m4) (sub_at sb_waitsFor rfl) rfl rfl rfl rfl rfl ?_
  refine lw_c hZ sb_waitsFor 2 (pc2 := if m4.1 7 0 0 5 = r then 1434 else 1432) (L2 := [some (vR 10 0 0), some (vR 3 0 0), some (vR 7 0 0), some (vR 9 0 0), some (vI (nI i)), some (vI r), some (vI b), none, none]) (st2 := []) (m2 := m4) rfl ?_
  refine lw_t ht ?_
  have fin : LW Z n 1451 [some (vR 10 0 0), some (vR 3 0 0), some (vR 7 0 0), some (vR 9 0 0), some (vI (nI i)), some (vI r), some (vI b), none, none] [] m4 := by
    refine lw_c hZ sb_waitsFor 1 (pc2 := 1522) (L2 := [some (vR 10 0 0), some (vR 3 0 0), some (vR 7 0 0), some (vR 9 0 0), some (vI (nI i)), some (vI r), some (vI b), none, none]) (st2 := []) (m2 := m4) rfl ?_
    exact lc_end hZ (kk m4 s2 l2 hW)
  refine lw_c hZ sb_waitsFor 2 (pc2 := if ¬ r = 0 then 1451 else 1439) (L2 := [some (vR 10 0 0), some (vR 3 0 0), some (vR 7 0 0), some (vR 9 0 0), some (vI (nI i)), some (vI r), some (vI b), none, none]) (st2 := []) (m2 := m4) rfl ?_
  by_cases hk : r = 0
  · refine lw_f (fun q => q hk) ?_
    refine lw_c hZ sb_waitsFor 7 (pc2 := if lg_cmp (m4.2 9 0 0 0) b.toInt64 = 0 then 1451 else 1449) (L2 := [some (vR 10 0 0), some (vR 3 0 0), some (vR 7 0 0), some (vR 9 0 0), some (vI (nI i)), some (vI r), some (vI b), none, none]) (st2 := []) (m2 := m4) rfl ?_
    refine lw_t (by rw [h0 hk]; exact lg_same _) fin
  · exact lw_t hk fin
end
