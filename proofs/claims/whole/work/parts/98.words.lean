set_option maxRecDepth 100000 in
theorem flk_ok0 : ∀ q ∈ flk 0, flG 0 q.1 q.2.1 q.2.2 := List.forall_mem_cons.mpr ⟨⟨_, rfl, (by decide +kernel), rfl, (bw_of 152 (by decide +kernel) rfl)⟩, List.forall_mem_cons.mpr ⟨⟨_, rfl, (by decide +kernel), rfl, (bw_of 153 (by decide +kernel) rfl)⟩, List.forall_mem_cons.mpr ⟨⟨_, rfl, (by decide +kernel), rfl, (bw_of 154 (by decide +kernel) rfl)⟩, fun _ h => nomatch h⟩⟩⟩
set_option maxRecDepth 100000 in
theorem flk_ok1 : ∀ q ∈ flk 1, flG 1 q.1 q.2.1 q.2.2 := List.forall_mem_cons.mpr ⟨⟨_, rfl, (by decide +kernel), rfl, (bw_of 93 (by decide +kernel) rfl)⟩, fun _ h => nomatch h⟩
set_option maxRecDepth 100000 in
theorem flk_ok2 : ∀ q ∈ flk 2, flG 2 q.1 q.2.1 q.2.2 := List.forall_mem_cons.mpr ⟨⟨_, rfl, (by decide +kernel), rfl, (bw_of 102 (by decide +kernel) rfl)⟩, List.forall_mem_cons.mpr ⟨⟨_, rfl, (by decide +kernel), rfl, (bw_of 104 (by decide +kernel) rfl)⟩, List.forall_mem_cons.mpr ⟨⟨_, rfl, (by decide +kernel), rfl, (bw_of 105 (by decide +kernel) rfl)⟩, List.forall_mem_cons.mpr ⟨⟨_, rfl, (by decide +kernel), rfl, (bw_of 106 (by decide +kernel) rfl)⟩, List.forall_mem_cons.mpr ⟨⟨_, rfl, (by decide +kernel), rfl, (bw_of 107 (by decide +kernel) rfl)⟩, List.forall_mem_cons.mpr ⟨⟨_, rfl, (by decide +kernel), rfl, (bw_of 109 (by decide +kernel) rfl)⟩, List.forall_mem_cons.mpr ⟨⟨_, rfl, (by decide +kernel), rfl, (bw_of 110 (by decide +kernel) rfl)⟩, List.forall_mem_cons.mpr ⟨⟨_, rfl, (by decide +kernel), rfl, (bw_of 111 (by decide +kernel) rfl)⟩, List.forall_mem_cons.mpr ⟨⟨_, rfl, (by decide +kernel), rfl, (bw_of 113 (by decide +kernel) rfl)⟩, List.forall_mem_cons.mpr ⟨⟨_, rfl, (by decide +kernel), rfl, (bw_of 114 (by decide +kernel) rfl)⟩, List.forall_mem_cons.mpr ⟨⟨_, rfl, (by decide +kernel), rfl, (bw_of 115 (by decide +kernel) rfl)⟩, List.forall_mem_cons.mpr ⟨⟨_, rfl, (by decide +kernel), rfl, (bw_of 117 (by decide +kernel) rfl)⟩, fun _ h => nomatch h⟩⟩⟩⟩⟩⟩⟩⟩⟩⟩⟩⟩
set_option maxRecDepth 100000 in
theorem flk_ok3 : ∀ q ∈ flk 3, flG 3 q.1 q.2.1 q.2.2 := List.forall_mem_cons.mpr ⟨⟨_, rfl, (by decide +kernel), rfl, (bw_of 171 (by decide +kernel) rfl)⟩, List.forall_mem_cons.mpr ⟨⟨_, rfl, (by decide +kernel), rfl, (bw_of 173 (by decide +kernel) rfl)⟩, fun _ h => nomatch h⟩⟩
set_option maxRecDepth 100000 in
theorem flk_ok4 : ∀ q ∈ flk 4, flG 4 q.1 q.2.1 q.2.2 := List.forall_mem_cons.mpr ⟨⟨_, rfl, (by decide +kernel), rfl, (bw_of 180 (by decide +kernel) rfl)⟩, List.forall_mem_cons.mpr ⟨⟨_, rfl, (by decide +kernel), rfl, (bw_of 181 (by decide +kernel) rfl)⟩, List.forall_mem_cons.mpr ⟨⟨_, rfl, (by decide +kernel), rfl, (bw_of 182 (by decide +kernel) rfl)⟩, List.forall_mem_cons.mpr ⟨⟨_, rfl, (by decide +kernel), rfl, (bw_of 183 (by decide +kernel) rfl)⟩, List.forall_mem_cons.mpr ⟨⟨_, rfl, (by decide +kernel), rfl, (bw_of 108 (by decide +kernel) rfl)⟩, List.forall_mem_cons.mpr ⟨⟨_, rfl, (by decide +kernel), rfl, (bw_of 116 (by decide +kernel) rfl)⟩, List.forall_mem_cons.mpr ⟨⟨_, rfl, (by decide +kernel), rfl, (bw_of 174 (by decide +kernel) rfl)⟩, List.forall_mem_cons.mpr ⟨⟨_, rfl, (by decide +kernel), rfl, (bw_of 155 (by decide +kernel) rfl)⟩, List.forall_mem_cons.mpr ⟨⟨_, rfl, (by decide +kernel), rfl, (bw_of 103 (by decide +kernel) rfl)⟩, List.forall_mem_cons.mpr ⟨⟨_, rfl, (by decide +kernel), rfl, (bw_of 172 (by decide +kernel) rfl)⟩, List.forall_mem_cons.mpr ⟨⟨_, rfl, (by decide +kernel), rfl, (bw_of 112 (by decide +kernel) rfl)⟩, fun _ h => nomatch h⟩⟩⟩⟩⟩⟩⟩⟩⟩⟩⟩
set_option maxRecDepth 100000 in
theorem flk_ok5 : ∀ q ∈ flk 5, flG 5 q.1 q.2.1 q.2.2 := List.forall_mem_cons.mpr ⟨⟨_, rfl, (by decide +kernel), rfl, (bw_of 785 (by decide +kernel) rfl)⟩, List.forall_mem_cons.mpr ⟨⟨_, rfl, (by decide +kernel), rfl, (bw_of 787 (by decide +kernel) rfl)⟩, List.forall_mem_cons.mpr ⟨⟨_, rfl, (by decide +kernel), rfl, (bw_of 789 (by decide +kernel) rfl)⟩, List.forall_mem_cons.mpr ⟨⟨_, rfl, (by decide +kernel), rfl, (bw_of 791 (by decide +kernel) rfl)⟩, List.forall_mem_cons.mpr ⟨⟨_, rfl, (by decide +kernel), rfl, (bw_of 795 (by decide +kernel) rfl)⟩, List.forall_mem_cons.mpr ⟨⟨_, rfl, (by decide +kernel), rfl, (bw_of 790 (by decide +kernel) rfl)⟩, List.forall_mem_cons.mpr ⟨⟨_, rfl, (by decide +kernel), rfl, (bw_of 786 (by decide +kernel) rfl)⟩, List.forall_mem_cons.mpr ⟨⟨_, rfl, (by decide +kernel), rfl, (bw_of 788 (by decide +kernel) rfl)⟩, List.forall_mem_cons.mpr ⟨⟨_, rfl, (by decide +kernel), rfl, (bw_of 793 (by decide +kernel) rfl)⟩, List.forall_mem_cons.mpr ⟨⟨_, rfl, (by decide +kernel), rfl, (bw_of 794 (by decide +kernel) rfl)⟩, List.forall_mem_cons.mpr ⟨⟨_, rfl, (by decide +kernel), rfl, (bw_of 792 (by decide +kernel) rfl)⟩, List.forall_mem_cons.mpr ⟨⟨_, rfl, (by decide +kernel), rfl, (bw_of 796 (by decide +kernel) rfl)⟩, fun _ h => nomatch h⟩⟩⟩⟩⟩⟩⟩⟩⟩⟩⟩⟩
theorem flk_ok (o : Nat) : ∀ q ∈ flk o, flG o q.1 q.2.1 q.2.2 := match o with
  | 0 => flk_ok0
  | 1 => flk_ok1
  | 2 => flk_ok2
  | 3 => flk_ok3
  | 4 => flk_ok4
  | 5 => flk_ok5
  | _ + 6 => fun _ h => nomatch h
set_option maxRecDepth 100000 in
theorem llk_ok4 : ∀ q ∈ llk 4, Cond.constantLong (RO 4) q.1 q.2 ∈ BW := List.forall_mem_cons.mpr ⟨(bw_of 273 (by decide +kernel) rfl), List.forall_mem_cons.mpr ⟨(bw_of 301 (by decide +kernel) rfl), List.forall_mem_cons.mpr ⟨(bw_of 435 (by decide +kernel) rfl), fun _ h => nomatch h⟩⟩⟩
set_option maxRecDepth 100000 in
theorem llk_ok5 : ∀ q ∈ llk 5, Cond.constantLong (RO 5) q.1 q.2 ∈ BW := List.forall_mem_cons.mpr ⟨(bw_of 1134 (by decide +kernel) rfl), List.forall_mem_cons.mpr ⟨(bw_of 1139 (by decide +kernel) rfl), fun _ h => nomatch h⟩⟩
set_option maxRecDepth 100000 in
theorem llk_ok7 : ∀ q ∈ llk 7, Cond.constantLong (RO 7) q.1 q.2 ∈ BW := List.forall_mem_cons.mpr ⟨(bw_of 1157 (by decide +kernel) rfl), fun _ h => nomatch h⟩
theorem llk_ok (o : Nat) : ∀ q ∈ llk o, Cond.constantLong (RO o) q.1 q.2 ∈ BW := match o with
  | 0 => fun _ h => nomatch h
  | 1 => fun _ h => nomatch h
  | 2 => fun _ h => nomatch h
  | 3 => fun _ h => nomatch h
  | 4 => llk_ok4
  | 5 => llk_ok5
  | 6 => fun _ h => nomatch h
  | 7 => llk_ok7
  | _ + 8 => fun _ h => nomatch h
set_option maxRecDepth 100000 in
theorem dlk_ok4 : ∀ q ∈ dlk 4, Cond.constantDouble (RO 4) q.1 q.2 ∈ BW := List.forall_mem_cons.mpr ⟨(bw_of 436 (by decide +kernel) rfl), List.forall_mem_cons.mpr ⟨(bw_of 437 (by decide +kernel) rfl), fun _ h => nomatch h⟩⟩
theorem dlk_ok (o : Nat) : ∀ q ∈ dlk o, Cond.constantDouble (RO o) q.1 q.2 ∈ BW := match o with
  | 0 => fun _ h => nomatch h
  | 1 => fun _ h => nomatch h
  | 2 => fun _ h => nomatch h
  | 3 => fun _ h => nomatch h
  | 4 => dlk_ok4
  | _ + 5 => fun _ h => nomatch h
set_option maxRecDepth 100000 in
theorem nlk_ok0 {o x : Nat} (h : (x, 0) ∈ nlk o) : Cond.methodLink (RO o) x arraycopyName ∈ BW ∧ Cond.native arraycopyName ∈ BW ∧ Cond.static arraycopyName ∈ BW ∧ Cond.initialized "java/lang/System" ∈ BW := match o, h with
  | 0, h => by simp [nlk] at h
  | 1, h => by
    obtain rfl : x = 21 := by simpa [nlk] using h
    exact ⟨(bw_of 330 (by decide +kernel) rfl), (bw_of 332 (by decide +kernel) rfl), (bw_of 331 (by decide +kernel) rfl), (bw_of 70 (by decide +kernel) rfl)⟩
  | 2, h => by simp [nlk] at h
  | 3, h => nomatch h
  | 4, h => nomatch h
  | 5, h => nomatch h
  | 6, h => nomatch h
  | 7, h => by simp [nlk] at h
  | _ + 8, h => nomatch h
set_option maxRecDepth 100000 in
theorem nlk_ok1 {o x : Nat} (h : (x, 1) ∈ nlk o) : Cond.methodLink (RO o) x ⟨"java/lang/Double", "doubleToRawLongBits", "(D)J"⟩ ∈ BW ∧ Cond.native ⟨"java/lang/Double", "doubleToRawLongBits", "(D)J"⟩ ∈ BW ∧ Cond.static ⟨"java/lang/Double", "doubleToRawLongBits", "(D)J"⟩ ∈ BW ∧ Cond.initialized "java/lang/Double" ∈ BW := match o, h with
  | 0, h => by simp [nlk] at h
  | 1, h => by simp [nlk] at h
  | 2, h => by simp [nlk] at h
  | 3, h => nomatch h
  | 4, h => nomatch h
  | 5, h => nomatch h
  | 6, h => nomatch h
  | 7, h => by
    obtain rfl : x = 134 := by simpa [nlk] using h
    exact ⟨(bw_of 1154 (by decide +kernel) rfl), (bw_of 1156 (by decide +kernel) rfl), (bw_of 1155 (by decide +kernel) rfl), (bw_of 72 (by decide +kernel) rfl)⟩
  | _ + 8, h => nomatch h
set_option maxRecDepth 100000 in
theorem nlk_ok2 {o x : Nat} (h : (x, 2) ∈ nlk o) : Cond.methodLink (RO o) x Lib.Math.max.name ∈ BW ∧ Cond.static Lib.Math.max.name ∈ BW ∧ Cond.initialized "java/lang/Math" ∈ BW ∧ Cond.code Lib.Math.max.name Lib.Math.max.code 2 (some .int) ∈ BW := match o, h with
  | 0, h => by simp [nlk] at h
  | 1, h => by simp [nlk] at h
  | 2, h => by
    obtain rfl : x = 79 := by simpa [nlk] using h
    exact ⟨(bw_of 351 (by decide +kernel) rfl), (bw_of 352 (by decide +kernel) rfl), (bw_of 71 (by decide +kernel) rfl), (bw_of 353 (by decide +kernel) rfl)⟩
  | 3, h => nomatch h
  | 4, h => nomatch h
  | 5, h => nomatch h
  | 6, h => nomatch h
  | 7, h => by simp [nlk] at h
  | _ + 8, h => nomatch h
set_option maxRecDepth 100000 in
theorem nlk_ok3 {o x : Nat} (h : (x, 3) ∈ nlk o) : Cond.methodLink (RO o) x Lib.Math.min.name ∈ BW ∧ Cond.static Lib.Math.min.name ∈ BW ∧ Cond.initialized "java/lang/Math" ∈ BW ∧ Cond.code Lib.Math.min.name Lib.Math.min.code 2 (some .int) ∈ BW := match o, h with
  | 0, h => by
    obtain rfl : x = 33 := by simpa [nlk] using h
    exact ⟨(bw_of 566 (by decide +kernel) rfl), (bw_of 412 (by decide +kernel) rfl), (bw_of 71 (by decide +kernel) rfl), (bw_of 413 (by decide +kernel) rfl)⟩
  | 1, h => by simp [nlk] at h
  | 2, h => by
    obtain rfl : x = 134 := by simpa [nlk] using h
    exact ⟨(bw_of 411 (by decide +kernel) rfl), (bw_of 412 (by decide +kernel) rfl), (bw_of 71 (by decide +kernel) rfl), (bw_of 413 (by decide +kernel) rfl)⟩
  | 3, h => nomatch h
  | 4, h => nomatch h
  | 5, h => nomatch h
  | 6, h => nomatch h
  | 7, h => by simp [nlk] at h
  | _ + 8, h => nomatch h
set_option maxRecDepth 100000 in
theorem clG0 : clG (RX0, TX0, 3) := ⟨bw_all _ [156, 158, 160] (by decide +kernel) (by decide +kernel), tyX0, tyX0_ok, nmX0⟩
set_option maxRecDepth 100000 in
theorem clG1 : clG (RX1, TX1, 1) := ⟨bw_all _ [94] (by decide +kernel) (by decide +kernel), tyX1, tyX1_ok, nmX1⟩
set_option maxRecDepth 100000 in
theorem clG2 : clG (RX2, TX2, 12) := ⟨bw_all _ [118, 120, 122, 124, 126, 128, 130, 132, 134, 136, 138, 140] (by decide +kernel) (by decide +kernel), tyX2, tyX2_ok, nmX2⟩
set_option maxRecDepth 100000 in
theorem clG3 : clG (RX3, TX3, 2) := ⟨bw_all _ [175, 177] (by decide +kernel) (by decide +kernel), tyX3, tyX3_ok, nmX3⟩
set_option maxRecDepth 100000 in
theorem clG4 : clG (RX4, TX4, 4) := ⟨bw_all _ [184, 186, 188, 190] (by decide +kernel) (by decide +kernel), tyX4, tyX4_ok, nmX4⟩
set_option maxRecDepth 100000 in
theorem clG5 : clG (RX5, TX5, 12) := ⟨bw_all _ [797, 799, 801, 803, 805, 807, 809, 811, 813, 815, 817, 819] (by decide +kernel) (by decide +kernel), tyX5, tyX5_ok, nmX5⟩
theorem clG_ok {ci : Nat} {q : vw_C} (h : vwCl[ci]? = some q) : clG q := match ci, h with
  | 0, h => by cases h; exact clG0
  | 1, h => by cases h; exact clG1
  | 2, h => by cases h; exact clG2
  | 3, h => by cases h; exact clG3
  | 4, h => by cases h; exact clG4
  | 5, h => by cases h; exact clG5
  | _ + 6, h => by simp [vwCl] at h
set_option maxRecDepth 100000 in
theorem ipl_ok : ∀ z ∈ ipl, (vwCl[z.1]?.map fun q => decide ((q.2.1 z.2).2.2.2 = false) && decide ((q.2.1 z.2).2.2.1 = "I")) = some true := by decide +kernel
theorem lpl_ok : (TX5 11).2.2.2 = false ∧ (TX5 11).2.2.1 = "J" := by decide +kernel
set_option maxRecDepth 100000 in
theorem mi_X0_slotAt : miG MX0_slotAt := ⟨(by decide +kernel), (bw_of 564 (by decide +kernel) rfl), (bw_of 61 (by decide +kernel) rfl), ⟨(by decide +kernel), (by decide +kernel), (by decide +kernel)⟩, rfl⟩
set_option maxRecDepth 100000 in
theorem mi_X1_copyFrom : miG MX1_copyFrom := ⟨(by decide +kernel), (bw_of 329 (by decide +kernel) rfl), (bw_of 60 (by decide +kernel) rfl), ⟨(by decide +kernel), (by decide +kernel), (by decide +kernel)⟩, rfl⟩
set_option maxRecDepth 100000 in
theorem mi_X2_copyFrom : miG MX2_copyFrom := ⟨(by decide +kernel), (bw_of 325 (by decide +kernel) rfl), (bw_of 59 (by decide +kernel) rfl), ⟨(by decide +kernel), (by decide +kernel), (by decide +kernel)⟩, rfl⟩
set_option maxRecDepth 100000 in
theorem mi_X0_save : miG MX0_save := ⟨(by decide +kernel), (bw_of 560 (by decide +kernel) rfl), (bw_of 61 (by decide +kernel) rfl), ⟨(by decide +kernel), (by decide +kernel), (by decide +kernel)⟩, rfl⟩
set_option maxRecDepth 100000 in
theorem mi_X0_restore : miG MX0_restore := ⟨(by decide +kernel), (bw_of 703 (by decide +kernel) rfl), (bw_of 61 (by decide +kernel) rfl), ⟨(by decide +kernel), (by decide +kernel), (by decide +kernel)⟩, rfl⟩
set_option maxRecDepth 100000 in
theorem mi_X1_at : miG MX1_at := ⟨(by decide +kernel), (bw_of 212 (by decide +kernel) rfl), (bw_of 60 (by decide +kernel) rfl), ⟨(by decide +kernel), (by decide +kernel), (by decide +kernel)⟩, rfl⟩
set_option maxRecDepth 100000 in
theorem mi_X1_put : miG MX1_put := ⟨(by decide +kernel), (bw_of 101 (by decide +kernel) rfl), (bw_of 60 (by decide +kernel) rfl), ⟨(by decide +kernel), (by decide +kernel), (by decide +kernel)⟩, rfl⟩
set_option maxRecDepth 100000 in
theorem mi_X1_raise : miG MX1_raise := ⟨(by decide +kernel), (bw_of 340 (by decide +kernel) rfl), (bw_of 60 (by decide +kernel) rfl), ⟨(by decide +kernel), (by decide +kernel), (by decide +kernel)⟩, rfl⟩
set_option maxRecDepth 100000 in
theorem mi_X1_sum : miG MX1_sum := ⟨(by decide +kernel), (bw_of 268 (by decide +kernel) rfl), (bw_of 60 (by decide +kernel) rfl), ⟨(by decide +kernel), (by decide +kernel), (by decide +kernel)⟩, rfl⟩
set_option maxRecDepth 100000 in
theorem mi_X2_isWaiting : miG MX2_isWaiting := ⟨(by decide +kernel), (bw_of 237 (by decide +kernel) rfl), (bw_of 59 (by decide +kernel) rfl), ⟨(by decide +kernel), (by decide +kernel), (by decide +kernel)⟩, rfl⟩
set_option maxRecDepth 100000 in
theorem mi_X2_queueLength : miG MX2_queueLength := ⟨(by decide +kernel), (bw_of 357 (by decide +kernel) rfl), (bw_of 59 (by decide +kernel) rfl), ⟨(by decide +kernel), (by decide +kernel), (by decide +kernel)⟩, rfl⟩
set_option maxRecDepth 100000 in
theorem mi_X2_handAt : miG MX2_handAt := ⟨(by decide +kernel), (bw_of 365 (by decide +kernel) rfl), (bw_of 59 (by decide +kernel) rfl), ⟨(by decide +kernel), (by decide +kernel), (by decide +kernel)⟩, rfl⟩
set_option maxRecDepth 100000 in
theorem mi_X4_cell : miG MX4_cell := ⟨(by decide +kernel), (bw_of 253 (by decide +kernel) rfl), (bw_of 58 (by decide +kernel) rfl), ⟨(by decide +kernel), (by decide +kernel), (by decide +kernel)⟩, rfl⟩
set_option maxRecDepth 100000 in
theorem mi_X2_placeForHolder : miG MX2_placeForHolder := ⟨(by decide +kernel), (bw_of 350 (by decide +kernel) rfl), (bw_of 59 (by decide +kernel) rfl), ⟨(by decide +kernel), (by decide +kernel), (by decide +kernel)⟩, rfl⟩
set_option maxRecDepth 100000 in
theorem mi_X2_enqueue : miG MX2_enqueue := ⟨(by decide +kernel), (bw_of 346 (by decide +kernel) rfl), (bw_of 59 (by decide +kernel) rfl), ⟨(by decide +kernel), (by decide +kernel), (by decide +kernel)⟩, rfl⟩
set_option maxRecDepth 100000 in
theorem mi_X2_dequeue : miG MX2_dequeue := ⟨(by decide +kernel), (bw_of 377 (by decide +kernel) rfl), (bw_of 59 (by decide +kernel) rfl), ⟨(by decide +kernel), (by decide +kernel), (by decide +kernel)⟩, rfl⟩
set_option maxRecDepth 100000 in
theorem mi_X2_clashes : miG MX2_clashes := ⟨(by decide +kernel), (bw_of 369 (by decide +kernel) rfl), (bw_of 59 (by decide +kernel) rfl), ⟨(by decide +kernel), (by decide +kernel), (by decide +kernel)⟩, rfl⟩
set_option maxRecDepth 100000 in
theorem mi_X2_grant : miG MX2_grant := ⟨(by decide +kernel), (bw_of 373 (by decide +kernel) rfl), (bw_of 59 (by decide +kernel) rfl), ⟨(by decide +kernel), (by decide +kernel), (by decide +kernel)⟩, rfl⟩
set_option maxRecDepth 100000 in
theorem mi_X2_settle : miG MX2_settle := ⟨(by decide +kernel), (bw_of 361 (by decide +kernel) rfl), (bw_of 59 (by decide +kernel) rfl), ⟨(by decide +kernel), (by decide +kernel), (by decide +kernel)⟩, rfl⟩
set_option maxRecDepth 100000 in
theorem mi_X2_direct : miG MX2_direct := ⟨(by decide +kernel), (bw_of 250 (by decide +kernel) rfl), (bw_of 59 (by decide +kernel) rfl), ⟨(by decide +kernel), (by decide +kernel), (by decide +kernel)⟩, rfl⟩
set_option maxRecDepth 100000 in
theorem mi_X4_has : miG MX4_has := ⟨(by decide +kernel), (bw_of 256 (by decide +kernel) rfl), (bw_of 58 (by decide +kernel) rfl), ⟨(by decide +kernel), (by decide +kernel), (by decide +kernel)⟩, rfl⟩
set_option maxRecDepth 100000 in
theorem mi_X2_reach : miG MX2_reach := ⟨(by decide +kernel), (bw_of 246 (by decide +kernel) rfl), (bw_of 59 (by decide +kernel) rfl), ⟨(by decide +kernel), (by decide +kernel), (by decide +kernel)⟩, rfl⟩
set_option maxRecDepth 100000 in
theorem mi_X2_work : miG MX2_work := ⟨(by decide +kernel), (bw_of 314 (by decide +kernel) rfl), (bw_of 59 (by decide +kernel) rfl), ⟨(by decide +kernel), (by decide +kernel), (by decide +kernel)⟩, rfl⟩
set_option maxRecDepth 100000 in
theorem mi_X2_loserFor : miG MX2_loserFor := ⟨(by decide +kernel), (bw_of 381 (by decide +kernel) rfl), (bw_of 59 (by decide +kernel) rfl), ⟨(by decide +kernel), (by decide +kernel), (by decide +kernel)⟩, rfl⟩
set_option maxRecDepth 100000 in
theorem mi_X2_strip : miG MX2_strip := ⟨(by decide +kernel), (bw_of 385 (by decide +kernel) rfl), (bw_of 59 (by decide +kernel) rfl), ⟨(by decide +kernel), (by decide +kernel), (by decide +kernel)⟩, rfl⟩
set_option maxRecDepth 100000 in
theorem mi_X2_takeAsking : miG MX2_takeAsking := ⟨(by decide +kernel), (bw_of 336 (by decide +kernel) rfl), (bw_of 59 (by decide +kernel) rfl), ⟨(by decide +kernel), (by decide +kernel), (by decide +kernel)⟩, rfl⟩
set_option maxRecDepth 100000 in
theorem mi_X2_canLetGo : miG MX2_canLetGo := ⟨(by decide +kernel), (bw_of 431 (by decide +kernel) rfl), (bw_of 59 (by decide +kernel) rfl), ⟨(by decide +kernel), (by decide +kernel), (by decide +kernel)⟩, rfl⟩
set_option maxRecDepth 100000 in
theorem mi_X2_letGo : miG MX2_letGo := ⟨(by decide +kernel), (bw_of 579 (by decide +kernel) rfl), (bw_of 59 (by decide +kernel) rfl), ⟨(by decide +kernel), (by decide +kernel), (by decide +kernel)⟩, rfl⟩
set_option maxRecDepth 100000 in
theorem mi_X2_stopWaiting : miG MX2_stopWaiting := ⟨(by decide +kernel), (bw_of 592 (by decide +kernel) rfl), (bw_of 59 (by decide +kernel) rfl), ⟨(by decide +kernel), (by decide +kernel), (by decide +kernel)⟩, rfl⟩
set_option maxRecDepth 100000 in
theorem mi_X2_canPassOver : miG MX2_canPassOver := ⟨(by decide +kernel), (bw_of 427 (by decide +kernel) rfl), (bw_of 59 (by decide +kernel) rfl), ⟨(by decide +kernel), (by decide +kernel), (by decide +kernel)⟩, rfl⟩
set_option maxRecDepth 100000 in
theorem mi_X2_passOver : miG MX2_passOver := ⟨(by decide +kernel), (bw_of 605 (by decide +kernel) rfl), (bw_of 59 (by decide +kernel) rfl), ⟨(by decide +kernel), (by decide +kernel), (by decide +kernel)⟩, rfl⟩
set_option maxRecDepth 100000 in
theorem mi_X2_takersOf : miG MX2_takersOf := ⟨(by decide +kernel), (bw_of 423 (by decide +kernel) rfl), (bw_of 59 (by decide +kernel) rfl), ⟨(by decide +kernel), (by decide +kernel), (by decide +kernel)⟩, rfl⟩
set_option maxRecDepth 100000 in
theorem mi_X2_heatAfter : miG MX2_heatAfter := ⟨(by decide +kernel), (bw_of 410 (by decide +kernel) rfl), (bw_of 59 (by decide +kernel) rfl), ⟨(by decide +kernel), (by decide +kernel), (by decide +kernel)⟩, rfl⟩
set_option maxRecDepth 100000 in
theorem mi_X2_greatestMode : miG MX2_greatestMode := ⟨(by decide +kernel), (bw_of 397 (by decide +kernel) rfl), (bw_of 59 (by decide +kernel) rfl), ⟨(by decide +kernel), (by decide +kernel), (by decide +kernel)⟩, rfl⟩
set_option maxRecDepth 100000 in
theorem mi_X2_burn : miG MX2_burn := ⟨(by decide +kernel), (bw_of 621 (by decide +kernel) rfl), (bw_of 59 (by decide +kernel) rfl), ⟨(by decide +kernel), (by decide +kernel), (by decide +kernel)⟩, rfl⟩
set_option maxRecDepth 100000 in
theorem mi_X2_tick : miG MX2_tick := ⟨(by decide +kernel), (bw_of 617 (by decide +kernel) rfl), (bw_of 59 (by decide +kernel) rfl), ⟨(by decide +kernel), (by decide +kernel), (by decide +kernel)⟩, rfl⟩
set_option maxRecDepth 100000 in
theorem mi_X2_ticksToBurn : miG MX2_ticksToBurn := ⟨(by decide +kernel), (bw_of 406 (by decide +kernel) rfl), (bw_of 59 (by decide +kernel) rfl), ⟨(by decide +kernel), (by decide +kernel), (by decide +kernel)⟩, rfl⟩
set_option maxRecDepth 100000 in
theorem mi_X2_holders : miG MX2_holders := ⟨(by decide +kernel), (bw_of 297 (by decide +kernel) rfl), (bw_of 59 (by decide +kernel) rfl), ⟨(by decide +kernel), (by decide +kernel), (by decide +kernel)⟩, rfl⟩
set_option maxRecDepth 100000 in
theorem mi_X2_locksOf : miG MX2_locksOf := ⟨(by decide +kernel), (bw_of 289 (by decide +kernel) rfl), (bw_of 59 (by decide +kernel) rfl), ⟨(by decide +kernel), (by decide +kernel), (by decide +kernel)⟩, rfl⟩
set_option maxRecDepth 100000 in
theorem mi_X2_lockCount : miG MX2_lockCount := ⟨(by decide +kernel), (bw_of 285 (by decide +kernel) rfl), (bw_of 59 (by decide +kernel) rfl), ⟨(by decide +kernel), (by decide +kernel), (by decide +kernel)⟩, rfl⟩
set_option maxRecDepth 100000 in
theorem mi_X2_waitingCount : miG MX2_waitingCount := ⟨(by decide +kernel), (bw_of 233 (by decide +kernel) rfl), (bw_of 59 (by decide +kernel) rfl), ⟨(by decide +kernel), (by decide +kernel), (by decide +kernel)⟩, rfl⟩
set_option maxRecDepth 100000 in
theorem mi_X2_heldRows : miG MX2_heldRows := ⟨(by decide +kernel), (bw_of 293 (by decide +kernel) rfl), (bw_of 59 (by decide +kernel) rfl), ⟨(by decide +kernel), (by decide +kernel), (by decide +kernel)⟩, rfl⟩
set_option maxRecDepth 100000 in
theorem mi_X2_handPart : miG MX2_handPart := ⟨(by decide +kernel), (bw_of 310 (by decide +kernel) rfl), (bw_of 59 (by decide +kernel) rfl), ⟨(by decide +kernel), (by decide +kernel), (by decide +kernel)⟩, rfl⟩
set_option maxRecDepth 100000 in
theorem mi_X2_rowPart : miG MX2_rowPart := ⟨(by decide +kernel), (bw_of 393 (by decide +kernel) rfl), (bw_of 59 (by decide +kernel) rfl), ⟨(by decide +kernel), (by decide +kernel), (by decide +kernel)⟩, rfl⟩
set_option maxRecDepth 100000 in
theorem mi_X2_requestPart : miG MX2_requestPart := ⟨(by decide +kernel), (bw_of 402 (by decide +kernel) rfl), (bw_of 59 (by decide +kernel) rfl), ⟨(by decide +kernel), (by decide +kernel), (by decide +kernel)⟩, rfl⟩
set_option maxRecDepth 100000 in
theorem mi_X2_total : miG MX2_total := ⟨(by decide +kernel), (bw_of 281 (by decide +kernel) rfl), (bw_of 59 (by decide +kernel) rfl), ⟨(by decide +kernel), (by decide +kernel), (by decide +kernel)⟩, rfl⟩
set_option maxRecDepth 100000 in
theorem mi_X2_waitersFor : miG MX2_waitersFor := ⟨(by decide +kernel), (bw_of 242 (by decide +kernel) rfl), (bw_of 59 (by decide +kernel) rfl), ⟨(by decide +kernel), (by decide +kernel), (by decide +kernel)⟩, rfl⟩
set_option maxRecDepth 100000 in
theorem mi_X2_mostWaitedFor : miG MX2_mostWaitedFor := ⟨(by decide +kernel), (bw_of 229 (by decide +kernel) rfl), (bw_of 59 (by decide +kernel) rfl), ⟨(by decide +kernel), (by decide +kernel), (by decide +kernel)⟩, rfl⟩
set_option maxRecDepth 100000 in
theorem mi_X2_shareGranted : miG MX2_shareGranted := ⟨(by decide +kernel), (bw_of 264 (by decide +kernel) rfl), (bw_of 59 (by decide +kernel) rfl), ⟨(by decide +kernel), (by decide +kernel), (by decide +kernel)⟩, rfl⟩
set_option maxRecDepth 100000 in
theorem mi_X3_add : miG MX3_add := ⟨(by decide +kernel), (bw_of 663 (by decide +kernel) rfl), (bw_of 62 (by decide +kernel) rfl), ⟨(by decide +kernel), (by decide +kernel), (by decide +kernel)⟩, rfl⟩
set_option maxRecDepth 100000 in
theorem mi_X3_empty : miG MX3_empty := ⟨(by decide +kernel), (bw_of 200 (by decide +kernel) rfl), (bw_of 62 (by decide +kernel) rfl), ⟨(by decide +kernel), (by decide +kernel), (by decide +kernel)⟩, rfl⟩
set_option maxRecDepth 100000 in
theorem mi_X3_isDigit : miG MX3_isDigit := ⟨(by decide +kernel), (bw_of 218 (by decide +kernel) rfl), (bw_of 62 (by decide +kernel) rfl), ⟨(by decide +kernel), (by decide +kernel), (by decide +kernel)⟩, rfl⟩
set_option maxRecDepth 100000 in
theorem mi_X3_isDeed : miG MX3_isDeed := ⟨(by decide +kernel), (bw_of 221 (by decide +kernel) rfl), (bw_of 62 (by decide +kernel) rfl), ⟨(by decide +kernel), (by decide +kernel), (by decide +kernel)⟩, rfl⟩
set_option maxRecDepth 100000 in
theorem mi_X3_dueAfter : miG MX3_dueAfter := ⟨(by decide +kernel), (bw_of 215 (by decide +kernel) rfl), (bw_of 62 (by decide +kernel) rfl), ⟨(by decide +kernel), (by decide +kernel), (by decide +kernel)⟩, rfl⟩
set_option maxRecDepth 100000 in
theorem mi_X3_firstFault : miG MX3_firstFault := ⟨(by decide +kernel), (bw_of 208 (by decide +kernel) rfl), (bw_of 62 (by decide +kernel) rfl), ⟨(by decide +kernel), (by decide +kernel), (by decide +kernel)⟩, rfl⟩
set_option maxRecDepth 100000 in
theorem mi_X3_isComplete : miG MX3_isComplete := ⟨(by decide +kernel), (bw_of 675 (by decide +kernel) rfl), (bw_of 62 (by decide +kernel) rfl), ⟨(by decide +kernel), (by decide +kernel), (by decide +kernel)⟩, rfl⟩
set_option maxRecDepth 100000 in
theorem mi_X3_deedFrom : miG MX3_deedFrom := ⟨(by decide +kernel), (bw_of 680 (by decide +kernel) rfl), (bw_of 62 (by decide +kernel) rfl), ⟨(by decide +kernel), (by decide +kernel), (by decide +kernel)⟩, rfl⟩
set_option maxRecDepth 100000 in
theorem mi_X3_numberBetween : miG MX3_numberBetween := ⟨(by decide +kernel), (bw_of 688 (by decide +kernel) rfl), (bw_of 62 (by decide +kernel) rfl), ⟨(by decide +kernel), (by decide +kernel), (by decide +kernel)⟩, rfl⟩
set_option maxRecDepth 100000 in
theorem mi_X4_isHand : miG MX4_isHand := ⟨(by decide +kernel), (bw_of 450 (by decide +kernel) rfl), (bw_of 58 (by decide +kernel) rfl), ⟨(by decide +kernel), (by decide +kernel), (by decide +kernel)⟩, rfl⟩
set_option maxRecDepth 100000 in
theorem mi_X4_isRow : miG MX4_isRow := ⟨(by decide +kernel), (bw_of 453 (by decide +kernel) rfl), (bw_of 58 (by decide +kernel) rfl), ⟨(by decide +kernel), (by decide +kernel), (by decide +kernel)⟩, rfl⟩
set_option maxRecDepth 100000 in
theorem mi_X4_isMode : miG MX4_isMode := ⟨(by decide +kernel), (bw_of 524 (by decide +kernel) rfl), (bw_of 58 (by decide +kernel) rfl), ⟨(by decide +kernel), (by decide +kernel), (by decide +kernel)⟩, rfl⟩
set_option maxRecDepth 100000 in
theorem mi_X4_ask : miG MX4_ask := ⟨(by decide +kernel), (bw_of 447 (by decide +kernel) rfl), (bw_of 58 (by decide +kernel) rfl), ⟨(by decide +kernel), (by decide +kernel), (by decide +kernel)⟩, rfl⟩
set_option maxRecDepth 100000 in
theorem mi_X4_release : miG MX4_release := ⟨(by decide +kernel), (bw_of 573 (by decide +kernel) rfl), (bw_of 58 (by decide +kernel) rfl), ⟨(by decide +kernel), (by decide +kernel), (by decide +kernel)⟩, rfl⟩
set_option maxRecDepth 100000 in
theorem mi_X4_giveUp : miG MX4_giveUp := ⟨(by decide +kernel), (bw_of 586 (by decide +kernel) rfl), (bw_of 58 (by decide +kernel) rfl), ⟨(by decide +kernel), (by decide +kernel), (by decide +kernel)⟩, rfl⟩
set_option maxRecDepth 100000 in
theorem mi_X4_handOn : miG MX4_handOn := ⟨(by decide +kernel), (bw_of 599 (by decide +kernel) rfl), (bw_of 58 (by decide +kernel) rfl), ⟨(by decide +kernel), (by decide +kernel), (by decide +kernel)⟩, rfl⟩
set_option maxRecDepth 100000 in
theorem mi_X4_pass : miG MX4_pass := ⟨(by decide +kernel), (bw_of 612 (by decide +kernel) rfl), (bw_of 58 (by decide +kernel) rfl), ⟨(by decide +kernel), (by decide +kernel), (by decide +kernel)⟩, rfl⟩
set_option maxRecDepth 100000 in
theorem mi_X4_cool : miG MX4_cool := ⟨(by decide +kernel), (bw_of 628 (by decide +kernel) rfl), (bw_of 58 (by decide +kernel) rfl), ⟨(by decide +kernel), (by decide +kernel), (by decide +kernel)⟩, rfl⟩
set_option maxRecDepth 100000 in
theorem mi_X4_isSetting : miG MX4_isSetting := ⟨(by decide +kernel), (bw_of 642 (by decide +kernel) rfl), (bw_of 58 (by decide +kernel) rfl), ⟨(by decide +kernel), (by decide +kernel), (by decide +kernel)⟩, rfl⟩
set_option maxRecDepth 100000 in
theorem mi_X4_leastValue : miG MX4_leastValue := ⟨(by decide +kernel), (bw_of 646 (by decide +kernel) rfl), (bw_of 58 (by decide +kernel) rfl), ⟨(by decide +kernel), (by decide +kernel), (by decide +kernel)⟩, rfl⟩
set_option maxRecDepth 100000 in
theorem mi_X4_greatestValue : miG MX4_greatestValue := ⟨(by decide +kernel), (bw_of 649 (by decide +kernel) rfl), (bw_of 58 (by decide +kernel) rfl), ⟨(by decide +kernel), (by decide +kernel), (by decide +kernel)⟩, rfl⟩
set_option maxRecDepth 100000 in
theorem mi_X4_set : miG MX4_set := ⟨(by decide +kernel), (bw_of 639 (by decide +kernel) rfl), (bw_of 58 (by decide +kernel) rfl), ⟨(by decide +kernel), (by decide +kernel), (by decide +kernel)⟩, rfl⟩
set_option maxRecDepth 100000 in
theorem mi_X4_append : miG MX4_append := ⟨(by decide +kernel), (bw_of 657 (by decide +kernel) rfl), (bw_of 58 (by decide +kernel) rfl), ⟨(by decide +kernel), (by decide +kernel), (by decide +kernel)⟩, rfl⟩
set_option maxRecDepth 100000 in
theorem mi_X4_clearBuffer : miG MX4_clearBuffer := ⟨(by decide +kernel), (bw_of 196 (by decide +kernel) rfl), (bw_of 58 (by decide +kernel) rfl), ⟨(by decide +kernel), (by decide +kernel), (by decide +kernel)⟩, rfl⟩
set_option maxRecDepth 100000 in
theorem mi_X4_firstError : miG MX4_firstError := ⟨(by decide +kernel), (bw_of 204 (by decide +kernel) rfl), (bw_of 58 (by decide +kernel) rfl), ⟨(by decide +kernel), (by decide +kernel), (by decide +kernel)⟩, rfl⟩
set_option maxRecDepth 100000 in
theorem mi_X4_modeOf : miG MX4_modeOf := ⟨(by decide +kernel), (bw_of 691 (by decide +kernel) rfl), (bw_of 58 (by decide +kernel) rfl), ⟨(by decide +kernel), (by decide +kernel), (by decide +kernel)⟩, rfl⟩
set_option maxRecDepth 100000 in
theorem mi_X4_carryOut : miG MX4_carryOut := ⟨(by decide +kernel), (bw_of 684 (by decide +kernel) rfl), (bw_of 58 (by decide +kernel) rfl), ⟨(by decide +kernel), (by decide +kernel), (by decide +kernel)⟩, rfl⟩
set_option maxRecDepth 100000 in
theorem mi_X4_run : miG MX4_run := ⟨(by decide +kernel), (bw_of 671 (by decide +kernel) rfl), (bw_of 58 (by decide +kernel) rfl), ⟨(by decide +kernel), (by decide +kernel), (by decide +kernel)⟩, rfl⟩
set_option maxRecDepth 100000 in
theorem mi_X4_undo : miG MX4_undo := ⟨(by decide +kernel), (bw_of 698 (by decide +kernel) rfl), (bw_of 58 (by decide +kernel) rfl), ⟨(by decide +kernel), (by decide +kernel), (by decide +kernel)⟩, rfl⟩
set_option maxRecDepth 100000 in
theorem mi_X4_lock : miG MX4_lock := ⟨(by decide +kernel), (bw_of 710 (by decide +kernel) rfl), (bw_of 58 (by decide +kernel) rfl), ⟨(by decide +kernel), (by decide +kernel), (by decide +kernel)⟩, rfl⟩
set_option maxRecDepth 100000 in
theorem mi_X4_hand : miG MX4_hand := ⟨(by decide +kernel), (bw_of 717 (by decide +kernel) rfl), (bw_of 58 (by decide +kernel) rfl), ⟨(by decide +kernel), (by decide +kernel), (by decide +kernel)⟩, rfl⟩
set_option maxRecDepth 100000 in
theorem mi_X4_row : miG MX4_row := ⟨(by decide +kernel), (bw_of 725 (by decide +kernel) rfl), (bw_of 58 (by decide +kernel) rfl), ⟨(by decide +kernel), (by decide +kernel), (by decide +kernel)⟩, rfl⟩
set_option maxRecDepth 100000 in
theorem mi_X4_request : miG MX4_request := ⟨(by decide +kernel), (bw_of 733 (by decide +kernel) rfl), (bw_of 58 (by decide +kernel) rfl), ⟨(by decide +kernel), (by decide +kernel), (by decide +kernel)⟩, rfl⟩
set_option maxRecDepth 100000 in
theorem mi_X4_numberOf : miG MX4_numberOf := ⟨(by decide +kernel), (bw_of 277 (by decide +kernel) rfl), (bw_of 58 (by decide +kernel) rfl), ⟨(by decide +kernel), (by decide +kernel), (by decide +kernel)⟩, rfl⟩
set_option maxRecDepth 100000 in
theorem mi_X4_count : miG MX4_count := ⟨(by decide +kernel), (bw_of 741 (by decide +kernel) rfl), (bw_of 58 (by decide +kernel) rfl), ⟨(by decide +kernel), (by decide +kernel), (by decide +kernel)⟩, rfl⟩
set_option maxRecDepth 100000 in
theorem mi_X4_setting : miG MX4_setting := ⟨(by decide +kernel), (bw_of 749 (by decide +kernel) rfl), (bw_of 58 (by decide +kernel) rfl), ⟨(by decide +kernel), (by decide +kernel), (by decide +kernel)⟩, rfl⟩
set_option maxRecDepth 100000 in
theorem mi_X4_tryAsking : miG MX4_tryAsking := ⟨(by decide +kernel), (bw_of 320 (by decide +kernel) rfl), (bw_of 58 (by decide +kernel) rfl), ⟨(by decide +kernel), (by decide +kernel), (by decide +kernel)⟩, rfl⟩
set_option maxRecDepth 100000 in
theorem mi_X4_trialPart : miG MX4_trialPart := ⟨(by decide +kernel), (bw_of 417 (by decide +kernel) rfl), (bw_of 58 (by decide +kernel) rfl), ⟨(by decide +kernel), (by decide +kernel), (by decide +kernel)⟩, rfl⟩
set_option maxRecDepth 100000 in
theorem mi_X4_ifAsked : miG MX4_ifAsked := ⟨(by decide +kernel), (bw_of 756 (by decide +kernel) rfl), (bw_of 58 (by decide +kernel) rfl), ⟨(by decide +kernel), (by decide +kernel), (by decide +kernel)⟩, rfl⟩
set_option maxRecDepth 100000 in
theorem mi_X4_takers : miG MX4_takers := ⟨(by decide +kernel), (bw_of 764 (by decide +kernel) rfl), (bw_of 58 (by decide +kernel) rfl), ⟨(by decide +kernel), (by decide +kernel), (by decide +kernel)⟩, rfl⟩
set_option maxRecDepth 100000 in
theorem mi_X4_burnsIn : miG MX4_burnsIn := ⟨(by decide +kernel), (bw_of 771 (by decide +kernel) rfl), (bw_of 58 (by decide +kernel) rfl), ⟨(by decide +kernel), (by decide +kernel), (by decide +kernel)⟩, rfl⟩
set_option maxRecDepth 100000 in
theorem mi_X4_waitsFor : miG MX4_waitsFor := ⟨(by decide +kernel), (bw_of 778 (by decide +kernel) rfl), (bw_of 58 (by decide +kernel) rfl), ⟨(by decide +kernel), (by decide +kernel), (by decide +kernel)⟩, rfl⟩
set_option maxRecDepth 100000 in
theorem mi_X4_busiest : miG MX4_busiest := ⟨(by decide +kernel), (bw_of 225 (by decide +kernel) rfl), (bw_of 58 (by decide +kernel) rfl), ⟨(by decide +kernel), (by decide +kernel), (by decide +kernel)⟩, rfl⟩
set_option maxRecDepth 100000 in
theorem mi_X4_grantedShare : miG MX4_grantedShare := ⟨(by decide +kernel), (bw_of 260 (by decide +kernel) rfl), (bw_of 58 (by decide +kernel) rfl), ⟨(by decide +kernel), (by decide +kernel), (by decide +kernel)⟩, rfl⟩
set_option maxRecDepth 100000 in
theorem mi_X4_mix : miG MX4_mix := ⟨(by decide +kernel), (bw_of 300 (by decide +kernel) rfl), (bw_of 58 (by decide +kernel) rfl), ⟨(by decide +kernel), (by decide +kernel), (by decide +kernel)⟩, rfl⟩
set_option maxRecDepth 100000 in
theorem mi_X4_mixHand : miG MX4_mixHand := ⟨(by decide +kernel), (bw_of 306 (by decide +kernel) rfl), (bw_of 58 (by decide +kernel) rfl), ⟨(by decide +kernel), (by decide +kernel), (by decide +kernel)⟩, rfl⟩
set_option maxRecDepth 100000 in
theorem mi_X4_mixRow : miG MX4_mixRow := ⟨(by decide +kernel), (bw_of 389 (by decide +kernel) rfl), (bw_of 58 (by decide +kernel) rfl), ⟨(by decide +kernel), (by decide +kernel), (by decide +kernel)⟩, rfl⟩
set_option maxRecDepth 100000 in
theorem mi_X4_bitsOfShare : miG MX4_bitsOfShare := ⟨(by decide +kernel), (bw_of 434 (by decide +kernel) rfl), (bw_of 58 (by decide +kernel) rfl), ⟨(by decide +kernel), (by decide +kernel), (by decide +kernel)⟩, rfl⟩
set_option maxRecDepth 100000 in
theorem mi_X4_digest : miG MX4_digest := ⟨(by decide +kernel), (bw_of 272 (by decide +kernel) rfl), (bw_of 58 (by decide +kernel) rfl), ⟨(by decide +kernel), (by decide +kernel), (by decide +kernel)⟩, rfl⟩
set_option maxRecDepth 100000 in
theorem mi_X5_thrown : miG MX5_thrown := ⟨(by decide +kernel), (bw_of 825 (by decide +kernel) rfl), (bw_of 63 (by decide +kernel) rfl), ⟨(by decide +kernel), (by decide +kernel), (by decide +kernel)⟩, rfl⟩
set_option maxRecDepth 100000 in
theorem mi_X5_within : miG MX5_within := ⟨(by decide +kernel), (bw_of 838 (by decide +kernel) rfl), (bw_of 63 (by decide +kernel) rfl), ⟨(by decide +kernel), (by decide +kernel), (by decide +kernel)⟩, rfl⟩
set_option maxRecDepth 100000 in
theorem mi_X5_save : miG MX5_save := ⟨(by decide +kernel), (bw_of 864 (by decide +kernel) rfl), (bw_of 63 (by decide +kernel) rfl), ⟨(by decide +kernel), (by decide +kernel), (by decide +kernel)⟩, rfl⟩
set_option maxRecDepth 100000 in
theorem mi_X5_isHand : miG MX5_isHand := ⟨(by decide +kernel), (bw_of 835 (by decide +kernel) rfl), (bw_of 63 (by decide +kernel) rfl), ⟨(by decide +kernel), (by decide +kernel), (by decide +kernel)⟩, rfl⟩
set_option maxRecDepth 100000 in
theorem mi_X5_isRow : miG MX5_isRow := ⟨(by decide +kernel), (bw_of 841 (by decide +kernel) rfl), (bw_of 63 (by decide +kernel) rfl), ⟨(by decide +kernel), (by decide +kernel), (by decide +kernel)⟩, rfl⟩
set_option maxRecDepth 100000 in
theorem mi_X5_areThere : miG MX5_areThere := ⟨(by decide +kernel), (bw_of 832 (by decide +kernel) rfl), (bw_of 63 (by decide +kernel) rfl), ⟨(by decide +kernel), (by decide +kernel), (by decide +kernel)⟩, rfl⟩
set_option maxRecDepth 100000 in
theorem mi_X5_lockOf : miG MX5_lockOf := ⟨(by decide +kernel), (bw_of 872 (by decide +kernel) rfl), (bw_of 63 (by decide +kernel) rfl), ⟨(by decide +kernel), (by decide +kernel), (by decide +kernel)⟩, rfl⟩
set_option maxRecDepth 100000 in
theorem mi_X5_setLock : miG MX5_setLock := ⟨(by decide +kernel), (bw_of 896 (by decide +kernel) rfl), (bw_of 63 (by decide +kernel) rfl), ⟨(by decide +kernel), (by decide +kernel), (by decide +kernel)⟩, rfl⟩
set_option maxRecDepth 100000 in
theorem mi_X5_whoAt : miG MX5_whoAt := ⟨(by decide +kernel), (bw_of 860 (by decide +kernel) rfl), (bw_of 63 (by decide +kernel) rfl), ⟨(by decide +kernel), (by decide +kernel), (by decide +kernel)⟩, rfl⟩
set_option maxRecDepth 100000 in
theorem mi_X5_modeAt : miG MX5_modeAt := ⟨(by decide +kernel), (bw_of 880 (by decide +kernel) rfl), (bw_of 63 (by decide +kernel) rfl), ⟨(by decide +kernel), (by decide +kernel), (by decide +kernel)⟩, rfl⟩
set_option maxRecDepth 100000 in
theorem mi_X5_placeIn : miG MX5_placeIn := ⟨(by decide +kernel), (bw_of 856 (by decide +kernel) rfl), (bw_of 63 (by decide +kernel) rfl), ⟨(by decide +kernel), (by decide +kernel), (by decide +kernel)⟩, rfl⟩
set_option maxRecDepth 100000 in
theorem mi_X5_rowOf : miG MX5_rowOf := ⟨(by decide +kernel), (bw_of 852 (by decide +kernel) rfl), (bw_of 63 (by decide +kernel) rfl), ⟨(by decide +kernel), (by decide +kernel), (by decide +kernel)⟩, rfl⟩
set_option maxRecDepth 100000 in
theorem mi_X5_waits : miG MX5_waits := ⟨(by decide +kernel), (bw_of 848 (by decide +kernel) rfl), (bw_of 63 (by decide +kernel) rfl), ⟨(by decide +kernel), (by decide +kernel), (by decide +kernel)⟩, rfl⟩
set_option maxRecDepth 100000 in
theorem mi_X5_workOf : miG MX5_workOf := ⟨(by decide +kernel), (bw_of 920 (by decide +kernel) rfl), (bw_of 63 (by decide +kernel) rfl), ⟨(by decide +kernel), (by decide +kernel), (by decide +kernel)⟩, rfl⟩
set_option maxRecDepth 100000 in
theorem mi_X5_holders : miG MX5_holders := ⟨(by decide +kernel), (bw_of 972 (by decide +kernel) rfl), (bw_of 63 (by decide +kernel) rfl), ⟨(by decide +kernel), (by decide +kernel), (by decide +kernel)⟩, rfl⟩
set_option maxRecDepth 100000 in
theorem mi_X5_greatestOf : miG MX5_greatestOf := ⟨(by decide +kernel), (bw_of 960 (by decide +kernel) rfl), (bw_of 63 (by decide +kernel) rfl), ⟨(by decide +kernel), (by decide +kernel), (by decide +kernel)⟩, rfl⟩
set_option maxRecDepth 100000 in
theorem mi_X5_clashing : miG MX5_clashing := ⟨(by decide +kernel), (bw_of 888 (by decide +kernel) rfl), (bw_of 63 (by decide +kernel) rfl), ⟨(by decide +kernel), (by decide +kernel), (by decide +kernel)⟩, rfl⟩
set_option maxRecDepth 100000 in
theorem mi_X5_waitsNow : miG MX5_waitsNow := ⟨(by decide +kernel), (bw_of 912 (by decide +kernel) rfl), (bw_of 63 (by decide +kernel) rfl), ⟨(by decide +kernel), (by decide +kernel), (by decide +kernel)⟩, rfl⟩
set_option maxRecDepth 100000 in
theorem mi_X5_waitsOver : miG MX5_waitsOver := ⟨(by decide +kernel), (bw_of 908 (by decide +kernel) rfl), (bw_of 63 (by decide +kernel) rfl), ⟨(by decide +kernel), (by decide +kernel), (by decide +kernel)⟩, rfl⟩
set_option maxRecDepth 100000 in
theorem mi_X5_unqueue : miG MX5_unqueue := ⟨(by decide +kernel), (bw_of 900 (by decide +kernel) rfl), (bw_of 63 (by decide +kernel) rfl), ⟨(by decide +kernel), (by decide +kernel), (by decide +kernel)⟩, rfl⟩
set_option maxRecDepth 100000 in
theorem mi_X5_enqueue : miG MX5_enqueue := ⟨(by decide +kernel), (bw_of 876 (by decide +kernel) rfl), (bw_of 63 (by decide +kernel) rfl), ⟨(by decide +kernel), (by decide +kernel), (by decide +kernel)⟩, rfl⟩
set_option maxRecDepth 100000 in
theorem mi_X5_grant : miG MX5_grant := ⟨(by decide +kernel), (bw_of 892 (by decide +kernel) rfl), (bw_of 63 (by decide +kernel) rfl), ⟨(by decide +kernel), (by decide +kernel), (by decide +kernel)⟩, rfl⟩
set_option maxRecDepth 100000 in
theorem mi_X5_settle : miG MX5_settle := ⟨(by decide +kernel), (bw_of 884 (by decide +kernel) rfl), (bw_of 63 (by decide +kernel) rfl), ⟨(by decide +kernel), (by decide +kernel), (by decide +kernel)⟩, rfl⟩
set_option maxRecDepth 100000 in
theorem mi_X5_isInRing : miG MX5_isInRing := ⟨(by decide +kernel), (bw_of 904 (by decide +kernel) rfl), (bw_of 63 (by decide +kernel) rfl), ⟨(by decide +kernel), (by decide +kernel), (by decide +kernel)⟩, rfl⟩
set_option maxRecDepth 100000 in
theorem mi_X5_loserFor : miG MX5_loserFor := ⟨(by decide +kernel), (bw_of 916 (by decide +kernel) rfl), (bw_of 63 (by decide +kernel) rfl), ⟨(by decide +kernel), (by decide +kernel), (by decide +kernel)⟩, rfl⟩
set_option maxRecDepth 100000 in
theorem mi_X5_lose : miG MX5_lose := ⟨(by decide +kernel), (bw_of 924 (by decide +kernel) rfl), (bw_of 63 (by decide +kernel) rfl), ⟨(by decide +kernel), (by decide +kernel), (by decide +kernel)⟩, rfl⟩
set_option maxRecDepth 100000 in
theorem mi_X5_asks : miG MX5_asks := ⟨(by decide +kernel), (bw_of 868 (by decide +kernel) rfl), (bw_of 63 (by decide +kernel) rfl), ⟨(by decide +kernel), (by decide +kernel), (by decide +kernel)⟩, rfl⟩
set_option maxRecDepth 100000 in
theorem mi_X5_isMode : miG MX5_isMode := ⟨(by decide +kernel), (bw_of 844 (by decide +kernel) rfl), (bw_of 63 (by decide +kernel) rfl), ⟨(by decide +kernel), (by decide +kernel), (by decide +kernel)⟩, rfl⟩
set_option maxRecDepth 100000 in
theorem mi_X5_ask : miG MX5_ask := ⟨(by decide +kernel), (bw_of 829 (by decide +kernel) rfl), (bw_of 63 (by decide +kernel) rfl), ⟨(by decide +kernel), (by decide +kernel), (by decide +kernel)⟩, rfl⟩
set_option maxRecDepth 100000 in
theorem mi_X5_canRelease : miG MX5_canRelease := ⟨(by decide +kernel), (bw_of 932 (by decide +kernel) rfl), (bw_of 63 (by decide +kernel) rfl), ⟨(by decide +kernel), (by decide +kernel), (by decide +kernel)⟩, rfl⟩
set_option maxRecDepth 100000 in
theorem mi_X5_releases : miG MX5_releases := ⟨(by decide +kernel), (bw_of 936 (by decide +kernel) rfl), (bw_of 63 (by decide +kernel) rfl), ⟨(by decide +kernel), (by decide +kernel), (by decide +kernel)⟩, rfl⟩
set_option maxRecDepth 100000 in
theorem mi_X5_release : miG MX5_release := ⟨(by decide +kernel), (bw_of 928 (by decide +kernel) rfl), (bw_of 63 (by decide +kernel) rfl), ⟨(by decide +kernel), (by decide +kernel), (by decide +kernel)⟩, rfl⟩
set_option maxRecDepth 100000 in
theorem mi_X5_giveUp : miG MX5_giveUp := ⟨(by decide +kernel), (bw_of 940 (by decide +kernel) rfl), (bw_of 63 (by decide +kernel) rfl), ⟨(by decide +kernel), (by decide +kernel), (by decide +kernel)⟩, rfl⟩
set_option maxRecDepth 100000 in
theorem mi_X5_canHandOn : miG MX5_canHandOn := ⟨(by decide +kernel), (bw_of 948 (by decide +kernel) rfl), (bw_of 63 (by decide +kernel) rfl), ⟨(by decide +kernel), (by decide +kernel), (by decide +kernel)⟩, rfl⟩
set_option maxRecDepth 100000 in
theorem mi_X5_handOn : miG MX5_handOn := ⟨(by decide +kernel), (bw_of 944 (by decide +kernel) rfl), (bw_of 63 (by decide +kernel) rfl), ⟨(by decide +kernel), (by decide +kernel), (by decide +kernel)⟩, rfl⟩
set_option maxRecDepth 100000 in
theorem mi_X5_burn : miG MX5_burn := ⟨(by decide +kernel), (bw_of 964 (by decide +kernel) rfl), (bw_of 63 (by decide +kernel) rfl), ⟨(by decide +kernel), (by decide +kernel), (by decide +kernel)⟩, rfl⟩
set_option maxRecDepth 100000 in
theorem mi_X5_tick : miG MX5_tick := ⟨(by decide +kernel), (bw_of 956 (by decide +kernel) rfl), (bw_of 63 (by decide +kernel) rfl), ⟨(by decide +kernel), (by decide +kernel), (by decide +kernel)⟩, rfl⟩
set_option maxRecDepth 100000 in
theorem mi_X5_pass : miG MX5_pass := ⟨(by decide +kernel), (bw_of 952 (by decide +kernel) rfl), (bw_of 63 (by decide +kernel) rfl), ⟨(by decide +kernel), (by decide +kernel), (by decide +kernel)⟩, rfl⟩
set_option maxRecDepth 100000 in
theorem mi_X5_cool : miG MX5_cool := ⟨(by decide +kernel), (bw_of 968 (by decide +kernel) rfl), (bw_of 63 (by decide +kernel) rfl), ⟨(by decide +kernel), (by decide +kernel), (by decide +kernel)⟩, rfl⟩
set_option maxRecDepth 100000 in
theorem mi_X5_isSetting : miG MX5_isSetting := ⟨(by decide +kernel), (bw_of 979 (by decide +kernel) rfl), (bw_of 63 (by decide +kernel) rfl), ⟨(by decide +kernel), (by decide +kernel), (by decide +kernel)⟩, rfl⟩
set_option maxRecDepth 100000 in
theorem mi_X5_isValue : miG MX5_isValue := ⟨(by decide +kernel), (bw_of 982 (by decide +kernel) rfl), (bw_of 63 (by decide +kernel) rfl), ⟨(by decide +kernel), (by decide +kernel), (by decide +kernel)⟩, rfl⟩
set_option maxRecDepth 100000 in
theorem mi_X5_set : miG MX5_set := ⟨(by decide +kernel), (bw_of 976 (by decide +kernel) rfl), (bw_of 63 (by decide +kernel) rfl), ⟨(by decide +kernel), (by decide +kernel), (by decide +kernel)⟩, rfl⟩
set_option maxRecDepth 100000 in
theorem mi_X5_append : miG MX5_append := ⟨(by decide +kernel), (bw_of 986 (by decide +kernel) rfl), (bw_of 63 (by decide +kernel) rfl), ⟨(by decide +kernel), (by decide +kernel), (by decide +kernel)⟩, rfl⟩
set_option maxRecDepth 100000 in
theorem mi_X5_clearBuffer : miG MX5_clearBuffer := ⟨(by decide +kernel), (bw_of 990 (by decide +kernel) rfl), (bw_of 63 (by decide +kernel) rfl), ⟨(by decide +kernel), (by decide +kernel), (by decide +kernel)⟩, rfl⟩
set_option maxRecDepth 100000 in
theorem mi_X5_modeOf : miG MX5_modeOf := ⟨(by decide +kernel), (bw_of 1005 (by decide +kernel) rfl), (bw_of 63 (by decide +kernel) rfl), ⟨(by decide +kernel), (by decide +kernel), (by decide +kernel)⟩, rfl⟩
set_option maxRecDepth 100000 in
theorem mi_X5_takesDigit : miG MX5_takesDigit := ⟨(by decide +kernel), (bw_of 1009 (by decide +kernel) rfl), (bw_of 63 (by decide +kernel) rfl), ⟨(by decide +kernel), (by decide +kernel), (by decide +kernel)⟩, rfl⟩
set_option maxRecDepth 100000 in
theorem mi_X5_takes : miG MX5_takes := ⟨(by decide +kernel), (bw_of 1002 (by decide +kernel) rfl), (bw_of 63 (by decide +kernel) rfl), ⟨(by decide +kernel), (by decide +kernel), (by decide +kernel)⟩, rfl⟩
set_option maxRecDepth 100000 in
theorem mi_X5_rightUpTo : miG MX5_rightUpTo := ⟨(by decide +kernel), (bw_of 998 (by decide +kernel) rfl), (bw_of 63 (by decide +kernel) rfl), ⟨(by decide +kernel), (by decide +kernel), (by decide +kernel)⟩, rfl⟩
set_option maxRecDepth 100000 in
theorem mi_X5_firstError : miG MX5_firstError := ⟨(by decide +kernel), (bw_of 994 (by decide +kernel) rfl), (bw_of 63 (by decide +kernel) rfl), ⟨(by decide +kernel), (by decide +kernel), (by decide +kernel)⟩, rfl⟩
set_option maxRecDepth 100000 in
theorem mi_X5_carries : miG MX5_carries := ⟨(by decide +kernel), (bw_of 1017 (by decide +kernel) rfl), (bw_of 63 (by decide +kernel) rfl), ⟨(by decide +kernel), (by decide +kernel), (by decide +kernel)⟩, rfl⟩
set_option maxRecDepth 100000 in
theorem mi_X5_run : miG MX5_run := ⟨(by decide +kernel), (bw_of 1013 (by decide +kernel) rfl), (bw_of 63 (by decide +kernel) rfl), ⟨(by decide +kernel), (by decide +kernel), (by decide +kernel)⟩, rfl⟩
set_option maxRecDepth 100000 in
theorem mi_X5_undo : miG MX5_undo := ⟨(by decide +kernel), (bw_of 1021 (by decide +kernel) rfl), (bw_of 63 (by decide +kernel) rfl), ⟨(by decide +kernel), (by decide +kernel), (by decide +kernel)⟩, rfl⟩
set_option maxRecDepth 100000 in
theorem mi_X5_lock : miG MX5_lock := ⟨(by decide +kernel), (bw_of 1025 (by decide +kernel) rfl), (bw_of 63 (by decide +kernel) rfl), ⟨(by decide +kernel), (by decide +kernel), (by decide +kernel)⟩, rfl⟩
set_option maxRecDepth 100000 in
theorem mi_X5_locksOf : miG MX5_locksOf := ⟨(by decide +kernel), (bw_of 1037 (by decide +kernel) rfl), (bw_of 63 (by decide +kernel) rfl), ⟨(by decide +kernel), (by decide +kernel), (by decide +kernel)⟩, rfl⟩
set_option maxRecDepth 100000 in
theorem mi_X5_handNow : miG MX5_handNow := ⟨(by decide +kernel), (bw_of 1033 (by decide +kernel) rfl), (bw_of 63 (by decide +kernel) rfl), ⟨(by decide +kernel), (by decide +kernel), (by decide +kernel)⟩, rfl⟩
set_option maxRecDepth 100000 in
theorem mi_X5_hand : miG MX5_hand := ⟨(by decide +kernel), (bw_of 1029 (by decide +kernel) rfl), (bw_of 63 (by decide +kernel) rfl), ⟨(by decide +kernel), (by decide +kernel), (by decide +kernel)⟩, rfl⟩
set_option maxRecDepth 100000 in
theorem mi_X5_rowNow : miG MX5_rowNow := ⟨(by decide +kernel), (bw_of 1045 (by decide +kernel) rfl), (bw_of 63 (by decide +kernel) rfl), ⟨(by decide +kernel), (by decide +kernel), (by decide +kernel)⟩, rfl⟩
set_option maxRecDepth 100000 in
theorem mi_X5_row : miG MX5_row := ⟨(by decide +kernel), (bw_of 1041 (by decide +kernel) rfl), (bw_of 63 (by decide +kernel) rfl), ⟨(by decide +kernel), (by decide +kernel), (by decide +kernel)⟩, rfl⟩
set_option maxRecDepth 100000 in
theorem mi_X5_requestNow : miG MX5_requestNow := ⟨(by decide +kernel), (bw_of 1053 (by decide +kernel) rfl), (bw_of 63 (by decide +kernel) rfl), ⟨(by decide +kernel), (by decide +kernel), (by decide +kernel)⟩, rfl⟩
set_option maxRecDepth 100000 in
theorem mi_X5_request : miG MX5_request := ⟨(by decide +kernel), (bw_of 1049 (by decide +kernel) rfl), (bw_of 63 (by decide +kernel) rfl), ⟨(by decide +kernel), (by decide +kernel), (by decide +kernel)⟩, rfl⟩
set_option maxRecDepth 100000 in
theorem mi_X5_sumFrom : miG MX5_sumFrom := ⟨(by decide +kernel), (bw_of 1069 (by decide +kernel) rfl), (bw_of 63 (by decide +kernel) rfl), ⟨(by decide +kernel), (by decide +kernel), (by decide +kernel)⟩, rfl⟩
set_option maxRecDepth 100000 in
theorem mi_X5_allLocks : miG MX5_allLocks := ⟨(by decide +kernel), (bw_of 1065 (by decide +kernel) rfl), (bw_of 63 (by decide +kernel) rfl), ⟨(by decide +kernel), (by decide +kernel), (by decide +kernel)⟩, rfl⟩
set_option maxRecDepth 100000 in
theorem mi_X5_heldRows : miG MX5_heldRows := ⟨(by decide +kernel), (bw_of 1073 (by decide +kernel) rfl), (bw_of 63 (by decide +kernel) rfl), ⟨(by decide +kernel), (by decide +kernel), (by decide +kernel)⟩, rfl⟩
set_option maxRecDepth 100000 in
theorem mi_X5_counted : miG MX5_counted := ⟨(by decide +kernel), (bw_of 1061 (by decide +kernel) rfl), (bw_of 63 (by decide +kernel) rfl), ⟨(by decide +kernel), (by decide +kernel), (by decide +kernel)⟩, rfl⟩
set_option maxRecDepth 100000 in
theorem mi_X5_count : miG MX5_count := ⟨(by decide +kernel), (bw_of 1057 (by decide +kernel) rfl), (bw_of 63 (by decide +kernel) rfl), ⟨(by decide +kernel), (by decide +kernel), (by decide +kernel)⟩, rfl⟩
set_option maxRecDepth 100000 in
theorem mi_X5_setting : miG MX5_setting := ⟨(by decide +kernel), (bw_of 1077 (by decide +kernel) rfl), (bw_of 63 (by decide +kernel) rfl), ⟨(by decide +kernel), (by decide +kernel), (by decide +kernel)⟩, rfl⟩
set_option maxRecDepth 100000 in
theorem mi_X5_keep : miG MX5_keep := ⟨(by decide +kernel), (bw_of 1089 (by decide +kernel) rfl), (bw_of 63 (by decide +kernel) rfl), ⟨(by decide +kernel), (by decide +kernel), (by decide +kernel)⟩, rfl⟩
set_option maxRecDepth 100000 in
theorem mi_X5_layBack : miG MX5_layBack := ⟨(by decide +kernel), (bw_of 1093 (by decide +kernel) rfl), (bw_of 63 (by decide +kernel) rfl), ⟨(by decide +kernel), (by decide +kernel), (by decide +kernel)⟩, rfl⟩
set_option maxRecDepth 100000 in
theorem mi_X5_askedThen : miG MX5_askedThen := ⟨(by decide +kernel), (bw_of 1085 (by decide +kernel) rfl), (bw_of 63 (by decide +kernel) rfl), ⟨(by decide +kernel), (by decide +kernel), (by decide +kernel)⟩, rfl⟩
set_option maxRecDepth 100000 in
theorem mi_X5_ifAsked : miG MX5_ifAsked := ⟨(by decide +kernel), (bw_of 1081 (by decide +kernel) rfl), (bw_of 63 (by decide +kernel) rfl), ⟨(by decide +kernel), (by decide +kernel), (by decide +kernel)⟩, rfl⟩
set_option maxRecDepth 100000 in
theorem mi_X5_takersNow : miG MX5_takersNow := ⟨(by decide +kernel), (bw_of 1101 (by decide +kernel) rfl), (bw_of 63 (by decide +kernel) rfl), ⟨(by decide +kernel), (by decide +kernel), (by decide +kernel)⟩, rfl⟩
set_option maxRecDepth 100000 in
theorem mi_X5_takers : miG MX5_takers := ⟨(by decide +kernel), (bw_of 1097 (by decide +kernel) rfl), (bw_of 63 (by decide +kernel) rfl), ⟨(by decide +kernel), (by decide +kernel), (by decide +kernel)⟩, rfl⟩
set_option maxRecDepth 100000 in
theorem mi_X5_burnsNow : miG MX5_burnsNow := ⟨(by decide +kernel), (bw_of 1109 (by decide +kernel) rfl), (bw_of 63 (by decide +kernel) rfl), ⟨(by decide +kernel), (by decide +kernel), (by decide +kernel)⟩, rfl⟩
set_option maxRecDepth 100000 in
theorem mi_X5_burnsIn : miG MX5_burnsIn := ⟨(by decide +kernel), (bw_of 1105 (by decide +kernel) rfl), (bw_of 63 (by decide +kernel) rfl), ⟨(by decide +kernel), (by decide +kernel), (by decide +kernel)⟩, rfl⟩
set_option maxRecDepth 100000 in
theorem mi_X5_waitsFor : miG MX5_waitsFor := ⟨(by decide +kernel), (bw_of 1113 (by decide +kernel) rfl), (bw_of 63 (by decide +kernel) rfl), ⟨(by decide +kernel), (by decide +kernel), (by decide +kernel)⟩, rfl⟩
set_option maxRecDepth 100000 in
theorem mi_X5_busiestNow : miG MX5_busiestNow := ⟨(by decide +kernel), (bw_of 1121 (by decide +kernel) rfl), (bw_of 63 (by decide +kernel) rfl), ⟨(by decide +kernel), (by decide +kernel), (by decide +kernel)⟩, rfl⟩
set_option maxRecDepth 100000 in
theorem mi_X5_busiest : miG MX5_busiest := ⟨(by decide +kernel), (bw_of 1117 (by decide +kernel) rfl), (bw_of 63 (by decide +kernel) rfl), ⟨(by decide +kernel), (by decide +kernel), (by decide +kernel)⟩, rfl⟩
set_option maxRecDepth 100000 in
theorem mi_X5_share : miG MX5_share := ⟨(by decide +kernel), (bw_of 1129 (by decide +kernel) rfl), (bw_of 63 (by decide +kernel) rfl), ⟨(by decide +kernel), (by decide +kernel), (by decide +kernel)⟩, rfl⟩
set_option maxRecDepth 100000 in
theorem mi_X5_grantedShare : miG MX5_grantedShare := ⟨(by decide +kernel), (bw_of 1125 (by decide +kernel) rfl), (bw_of 63 (by decide +kernel) rfl), ⟨(by decide +kernel), (by decide +kernel), (by decide +kernel)⟩, rfl⟩
set_option maxRecDepth 100000 in
theorem mi_X5_mix : miG MX5_mix := ⟨(by decide +kernel), (bw_of 1138 (by decide +kernel) rfl), (bw_of 63 (by decide +kernel) rfl), ⟨(by decide +kernel), (by decide +kernel), (by decide +kernel)⟩, rfl⟩
set_option maxRecDepth 100000 in
theorem mi_X5_mixHand : miG MX5_mixHand := ⟨(by decide +kernel), (bw_of 1143 (by decide +kernel) rfl), (bw_of 63 (by decide +kernel) rfl), ⟨(by decide +kernel), (by decide +kernel), (by decide +kernel)⟩, rfl⟩
set_option maxRecDepth 100000 in
theorem mi_X5_mixRow : miG MX5_mixRow := ⟨(by decide +kernel), (bw_of 1147 (by decide +kernel) rfl), (bw_of 63 (by decide +kernel) rfl), ⟨(by decide +kernel), (by decide +kernel), (by decide +kernel)⟩, rfl⟩
set_option maxRecDepth 100000 in
theorem mi_Jxe99ae_isNaN_b9ae7 : miG MJxe99ae_isNaN_b9ae7 := ⟨(by decide +kernel), (bw_of 1153 (by decide +kernel) rfl), (bw_of 72 (by decide +kernel) rfl), ⟨(by decide +kernel), (by decide +kernel), (by decide +kernel)⟩, rfl⟩
set_option maxRecDepth 100000 in
theorem mi_Jxe99ae_doubleToLongBits_ccdee : miG MJxe99ae_doubleToLongBits_ccdee := ⟨(by decide +kernel), (bw_of 1150 (by decide +kernel) rfl), (bw_of 72 (by decide +kernel) rfl), ⟨(by decide +kernel), (by decide +kernel), (by decide +kernel)⟩, rfl⟩
set_option maxRecDepth 100000 in
theorem mi_X5_digest : miG MX5_digest := ⟨(by decide +kernel), (bw_of 1133 (by decide +kernel) rfl), (bw_of 63 (by decide +kernel) rfl), ⟨(by decide +kernel), (by decide +kernel), (by decide +kernel)⟩, rfl⟩
set_option maxRecDepth 100000 in
theorem lk_0_29 : lkG 0 29 1 MX2_copyFrom := ⟨(bw_of 565 (by decide +kernel) rfl), (bw_of 323 (by decide +kernel) rfl), (bw_of 324 (by decide +kernel) rfl), rfl⟩
set_option maxRecDepth 100000 in
theorem lk_0_25 : lkG 0 25 1 MX0_slotAt := ⟨(bw_of 561 (by decide +kernel) rfl), (bw_of 563 (by decide +kernel) rfl), (bw_of 6 (by decide +kernel) rfl), rfl⟩
set_option maxRecDepth 100000 in
theorem clk_ok0 : ∀ q ∈ clk 0, lkG 0 q.1 q.2.1 q.2.2 ∧ miG q.2.2 := List.forall_mem_cons.mpr ⟨⟨lk_0_25, mi_X0_slotAt⟩, List.forall_mem_cons.mpr ⟨⟨lk_0_29, mi_X2_copyFrom⟩, fun _ h => nomatch h⟩⟩
set_option maxRecDepth 100000 in
theorem lk_1_17 : lkG 1 17 1 MX1_put := ⟨(bw_of 342 (by decide +kernel) rfl), (bw_of 99 (by decide +kernel) rfl), (bw_of 100 (by decide +kernel) rfl), rfl⟩
set_option maxRecDepth 100000 in
theorem lk_1_13 : lkG 1 13 1 MX1_at := ⟨(bw_of 341 (by decide +kernel) rfl), (bw_of 210 (by decide +kernel) rfl), (bw_of 211 (by decide +kernel) rfl), rfl⟩
set_option maxRecDepth 100000 in
theorem clk_ok1 : ∀ q ∈ clk 1, lkG 1 q.1 q.2.1 q.2.2 ∧ miG q.2.2 := List.forall_mem_cons.mpr ⟨⟨lk_1_13, mi_X1_at⟩, List.forall_mem_cons.mpr ⟨⟨lk_1_17, mi_X1_put⟩, fun _ h => nomatch h⟩⟩
set_option maxRecDepth 100000 in
theorem lk_2_165 : lkG 2 165 1 MX2_waitersFor := ⟨(bw_of 239 (by decide +kernel) rfl), (bw_of 240 (by decide +kernel) rfl), (bw_of 241 (by decide +kernel) rfl), rfl⟩
set_option maxRecDepth 100000 in
theorem lk_2_162 : lkG 2 162 1 MX2_heldRows := ⟨(bw_of 290 (by decide +kernel) rfl), (bw_of 291 (by decide +kernel) rfl), (bw_of 292 (by decide +kernel) rfl), rfl⟩
set_option maxRecDepth 100000 in
theorem lk_2_159 : lkG 2 159 1 MX1_sum := ⟨(bw_of 265 (by decide +kernel) rfl), (bw_of 266 (by decide +kernel) rfl), (bw_of 267 (by decide +kernel) rfl), rfl⟩
set_option maxRecDepth 100000 in
theorem lk_2_156 : lkG 2 156 1 MX2_waitingCount := ⟨(bw_of 230 (by decide +kernel) rfl), (bw_of 231 (by decide +kernel) rfl), (bw_of 232 (by decide +kernel) rfl), rfl⟩
set_option maxRecDepth 100000 in
theorem lk_2_152 : lkG 2 152 1 MX2_lockCount := ⟨(bw_of 282 (by decide +kernel) rfl), (bw_of 283 (by decide +kernel) rfl), (bw_of 284 (by decide +kernel) rfl), rfl⟩
set_option maxRecDepth 100000 in
theorem lk_2_149 : lkG 2 149 1 MX2_holders := ⟨(bw_of 294 (by decide +kernel) rfl), (bw_of 295 (by decide +kernel) rfl), (bw_of 296 (by decide +kernel) rfl), rfl⟩
set_option maxRecDepth 100000 in
theorem lk_2_146 : lkG 2 146 1 MX2_locksOf := ⟨(bw_of 286 (by decide +kernel) rfl), (bw_of 287 (by decide +kernel) rfl), (bw_of 288 (by decide +kernel) rfl), rfl⟩
set_option maxRecDepth 100000 in
theorem lk_2_143 : lkG 2 143 1 MX2_burn := ⟨(bw_of 618 (by decide +kernel) rfl), (bw_of 619 (by decide +kernel) rfl), (bw_of 620 (by decide +kernel) rfl), rfl⟩
set_option maxRecDepth 100000 in
theorem lk_2_140 : lkG 2 140 1 MX2_heatAfter := ⟨(bw_of 407 (by decide +kernel) rfl), (bw_of 408 (by decide +kernel) rfl), (bw_of 409 (by decide +kernel) rfl), rfl⟩
set_option maxRecDepth 100000 in
theorem lk_2_137 : lkG 2 137 1 MX2_greatestMode := ⟨(bw_of 394 (by decide +kernel) rfl), (bw_of 395 (by decide +kernel) rfl), (bw_of 396 (by decide +kernel) rfl), rfl⟩
set_option maxRecDepth 100000 in
theorem lk_2_130 : lkG 2 130 1 MX2_canPassOver := ⟨(bw_of 424 (by decide +kernel) rfl), (bw_of 425 (by decide +kernel) rfl), (bw_of 426 (by decide +kernel) rfl), rfl⟩
set_option maxRecDepth 100000 in
theorem lk_2_127 : lkG 2 127 1 MX2_canLetGo := ⟨(bw_of 428 (by decide +kernel) rfl), (bw_of 429 (by decide +kernel) rfl), (bw_of 430 (by decide +kernel) rfl), rfl⟩
set_option maxRecDepth 100000 in
theorem lk_2_124 : lkG 2 124 1 MX2_strip := ⟨(bw_of 382 (by decide +kernel) rfl), (bw_of 383 (by decide +kernel) rfl), (bw_of 384 (by decide +kernel) rfl), rfl⟩
set_option maxRecDepth 100000 in
theorem lk_2_121 : lkG 2 121 1 MX2_loserFor := ⟨(bw_of 378 (by decide +kernel) rfl), (bw_of 379 (by decide +kernel) rfl), (bw_of 380 (by decide +kernel) rfl), rfl⟩
set_option maxRecDepth 100000 in
theorem lk_2_118 : lkG 2 118 1 MX2_settle := ⟨(bw_of 358 (by decide +kernel) rfl), (bw_of 359 (by decide +kernel) rfl), (bw_of 360 (by decide +kernel) rfl), rfl⟩
set_option maxRecDepth 100000 in
theorem lk_2_114 : lkG 2 114 1 MX2_enqueue := ⟨(bw_of 343 (by decide +kernel) rfl), (bw_of 344 (by decide +kernel) rfl), (bw_of 345 (by decide +kernel) rfl), rfl⟩
set_option maxRecDepth 100000 in
theorem lk_2_111 : lkG 2 111 1 MX2_work := ⟨(bw_of 311 (by decide +kernel) rfl), (bw_of 312 (by decide +kernel) rfl), (bw_of 313 (by decide +kernel) rfl), rfl⟩
set_option maxRecDepth 100000 in
theorem lk_2_108 : lkG 2 108 1 MX2_reach := ⟨(bw_of 243 (by decide +kernel) rfl), (bw_of 244 (by decide +kernel) rfl), (bw_of 245 (by decide +kernel) rfl), rfl⟩
set_option maxRecDepth 100000 in
theorem lk_2_104 : lkG 2 104 2 MX4_has := ⟨⟨"HotPanLocks", nw_of 254 (by decide +kernel) rfl⟩, (bw_of 255 (by decide +kernel) rfl)⟩
set_option maxRecDepth 100000 in
theorem lk_2_101 : lkG 2 101 1 MX2_direct := ⟨(bw_of 247 (by decide +kernel) rfl), (bw_of 248 (by decide +kernel) rfl), (bw_of 249 (by decide +kernel) rfl), rfl⟩
set_option maxRecDepth 100000 in
theorem lk_2_97 : lkG 2 97 1 MX2_isWaiting := ⟨(bw_of 234 (by decide +kernel) rfl), (bw_of 235 (by decide +kernel) rfl), (bw_of 236 (by decide +kernel) rfl), rfl⟩
set_option maxRecDepth 100000 in
theorem lk_2_94 : lkG 2 94 1 MX2_grant := ⟨(bw_of 370 (by decide +kernel) rfl), (bw_of 371 (by decide +kernel) rfl), (bw_of 372 (by decide +kernel) rfl), rfl⟩
set_option maxRecDepth 100000 in
theorem lk_2_90 : lkG 2 90 1 MX2_clashes := ⟨(bw_of 366 (by decide +kernel) rfl), (bw_of 367 (by decide +kernel) rfl), (bw_of 368 (by decide +kernel) rfl), rfl⟩
set_option maxRecDepth 100000 in
theorem lk_2_87 : lkG 2 87 1 MX2_handAt := ⟨(bw_of 362 (by decide +kernel) rfl), (bw_of 363 (by decide +kernel) rfl), (bw_of 364 (by decide +kernel) rfl), rfl⟩
set_option maxRecDepth 100000 in
theorem lk_2_84 : lkG 2 84 1 MX2_dequeue := ⟨(bw_of 374 (by decide +kernel) rfl), (bw_of 375 (by decide +kernel) rfl), (bw_of 376 (by decide +kernel) rfl), rfl⟩
set_option maxRecDepth 100000 in
theorem lk_2_76 : lkG 2 76 1 MX1_raise := ⟨(bw_of 337 (by decide +kernel) rfl), (bw_of 338 (by decide +kernel) rfl), (bw_of 339 (by decide +kernel) rfl), rfl⟩
set_option maxRecDepth 100000 in
theorem lk_2_73 : lkG 2 73 1 MX2_queueLength := ⟨(bw_of 354 (by decide +kernel) rfl), (bw_of 355 (by decide +kernel) rfl), (bw_of 356 (by decide +kernel) rfl), rfl⟩
set_option maxRecDepth 100000 in
theorem lk_2_70 : lkG 2 70 1 MX2_placeForHolder := ⟨(bw_of 347 (by decide +kernel) rfl), (bw_of 348 (by decide +kernel) rfl), (bw_of 349 (by decide +kernel) rfl), rfl⟩
set_option maxRecDepth 100000 in
theorem lk_2_66 : lkG 2 66 2 MX4_cell := ⟨⟨"HotPanLocks", nw_of 251 (by decide +kernel) rfl⟩, (bw_of 252 (by decide +kernel) rfl)⟩
set_option maxRecDepth 100000 in
theorem lk_2_62 : lkG 2 62 1 MX1_at := ⟨(bw_of 238 (by decide +kernel) rfl), (bw_of 210 (by decide +kernel) rfl), (bw_of 211 (by decide +kernel) rfl), rfl⟩
set_option maxRecDepth 100000 in
theorem lk_2_58 : lkG 2 58 1 MX1_copyFrom := ⟨(bw_of 326 (by decide +kernel) rfl), (bw_of 327 (by decide +kernel) rfl), (bw_of 328 (by decide +kernel) rfl), rfl⟩
set_option maxRecDepth 100000 in
theorem lk_2_54 : lkG 2 54 1 MX1_put := ⟨(bw_of 98 (by decide +kernel) rfl), (bw_of 99 (by decide +kernel) rfl), (bw_of 100 (by decide +kernel) rfl), rfl⟩
set_option maxRecDepth 100000 in
theorem clk_ok2 : ∀ q ∈ clk 2, lkG 2 q.1 q.2.1 q.2.2 ∧ miG q.2.2 := List.forall_mem_cons.mpr ⟨⟨lk_2_54, mi_X1_put⟩, List.forall_mem_cons.mpr ⟨⟨lk_2_58, mi_X1_copyFrom⟩, List.forall_mem_cons.mpr ⟨⟨lk_2_62, mi_X1_at⟩, List.forall_mem_cons.mpr ⟨⟨lk_2_66, mi_X4_cell⟩, List.forall_mem_cons.mpr ⟨⟨lk_2_70, mi_X2_placeForHolder⟩, List.forall_mem_cons.mpr ⟨⟨lk_2_73, mi_X2_queueLength⟩, List.forall_mem_cons.mpr ⟨⟨lk_2_76, mi_X1_raise⟩, List.forall_mem_cons.mpr ⟨⟨lk_2_84, mi_X2_dequeue⟩, List.forall_mem_cons.mpr ⟨⟨lk_2_87, mi_X2_handAt⟩, List.forall_mem_cons.mpr ⟨⟨lk_2_90, mi_X2_clashes⟩, List.forall_mem_cons.mpr ⟨⟨lk_2_94, mi_X2_grant⟩, List.forall_mem_cons.mpr ⟨⟨lk_2_97, mi_X2_isWaiting⟩, List.forall_mem_cons.mpr ⟨⟨lk_2_101, mi_X2_direct⟩, List.forall_mem_cons.mpr ⟨⟨lk_2_104, mi_X4_has⟩, List.forall_mem_cons.mpr ⟨⟨lk_2_108, mi_X2_reach⟩, List.forall_mem_cons.mpr ⟨⟨lk_2_111, mi_X2_work⟩, List.forall_mem_cons.mpr ⟨⟨lk_2_114, mi_X2_enqueue⟩, List.forall_mem_cons.mpr ⟨⟨lk_2_118, mi_X2_settle⟩, List.forall_mem_cons.mpr ⟨⟨lk_2_121, mi_X2_loserFor⟩, List.forall_mem_cons.mpr ⟨⟨lk_2_124, mi_X2_strip⟩, List.forall_mem_cons.mpr ⟨⟨lk_2_127, mi_X2_canLetGo⟩, List.forall_mem_cons.mpr ⟨⟨lk_2_130, mi_X2_canPassOver⟩, List.forall_mem_cons.mpr ⟨⟨lk_2_137, mi_X2_greatestMode⟩, List.forall_mem_cons.mpr ⟨⟨lk_2_140, mi_X2_heatAfter⟩, List.forall_mem_cons.mpr ⟨⟨lk_2_143, mi_X2_burn⟩, List.forall_mem_cons.mpr ⟨⟨lk_2_146, mi_X2_locksOf⟩, List.forall_mem_cons.mpr ⟨⟨lk_2_149, mi_X2_holders⟩, List.forall_mem_cons.mpr ⟨⟨lk_2_152, mi_X2_lockCount⟩, List.forall_mem_cons.mpr ⟨⟨lk_2_156, mi_X2_waitingCount⟩, List.forall_mem_cons.mpr ⟨⟨lk_2_159, mi_X1_sum⟩, List.forall_mem_cons.mpr ⟨⟨lk_2_162, mi_X2_heldRows⟩, List.forall_mem_cons.mpr ⟨⟨lk_2_165, mi_X2_waitersFor⟩, fun _ h => nomatch h⟩⟩⟩⟩⟩⟩⟩⟩⟩⟩⟩⟩⟩⟩⟩⟩⟩⟩⟩⟩⟩⟩⟩⟩⟩⟩⟩⟩⟩⟩⟩⟩
set_option maxRecDepth 100000 in
theorem lk_3_40 : lkG 3 40 0 MX3_isDeed := ⟨(bw_of 219 (by decide +kernel) rfl), (bw_of 220 (by decide +kernel) rfl)⟩
set_option maxRecDepth 100000 in
theorem lk_3_36 : lkG 3 36 0 MX3_isDigit := ⟨(bw_of 216 (by decide +kernel) rfl), (bw_of 217 (by decide +kernel) rfl)⟩
set_option maxRecDepth 100000 in
theorem lk_3_32 : lkG 3 32 0 MX3_dueAfter := ⟨(bw_of 213 (by decide +kernel) rfl), (bw_of 214 (by decide +kernel) rfl)⟩
set_option maxRecDepth 100000 in
theorem lk_3_28 : lkG 3 28 1 MX1_at := ⟨(bw_of 209 (by decide +kernel) rfl), (bw_of 210 (by decide +kernel) rfl), (bw_of 211 (by decide +kernel) rfl), rfl⟩
set_option maxRecDepth 100000 in
theorem lk_3_24 : lkG 3 24 1 MX1_put := ⟨(bw_of 664 (by decide +kernel) rfl), (bw_of 99 (by decide +kernel) rfl), (bw_of 100 (by decide +kernel) rfl), rfl⟩
set_option maxRecDepth 100000 in
theorem clk_ok3 : ∀ q ∈ clk 3, lkG 3 q.1 q.2.1 q.2.2 ∧ miG q.2.2 := List.forall_mem_cons.mpr ⟨⟨lk_3_24, mi_X1_put⟩, List.forall_mem_cons.mpr ⟨⟨lk_3_28, mi_X1_at⟩, List.forall_mem_cons.mpr ⟨⟨lk_3_32, mi_X3_dueAfter⟩, List.forall_mem_cons.mpr ⟨⟨lk_3_36, mi_X3_isDigit⟩, List.forall_mem_cons.mpr ⟨⟨lk_3_40, mi_X3_isDeed⟩, fun _ h => nomatch h⟩⟩⟩⟩⟩
set_option maxRecDepth 100000 in
theorem lk_4_272 : lkG 4 272 1 MX2_queueLength := ⟨(bw_of 398 (by decide +kernel) rfl), (bw_of 355 (by decide +kernel) rfl), (bw_of 356 (by decide +kernel) rfl), rfl⟩
set_option maxRecDepth 100000 in
theorem lk_4_267 : lkG 4 267 1 MX2_lockCount := ⟨(bw_of 419 (by decide +kernel) rfl), (bw_of 283 (by decide +kernel) rfl), (bw_of 284 (by decide +kernel) rfl), rfl⟩
set_option maxRecDepth 100000 in
theorem lk_4_264 : lkG 4 264 1 MX1_sum := ⟨(bw_of 418 (by decide +kernel) rfl), (bw_of 266 (by decide +kernel) rfl), (bw_of 267 (by decide +kernel) rfl), rfl⟩
set_option maxRecDepth 100000 in
theorem lk_4_258 : lkG 4 258 1 MX2_copyFrom := ⟨(bw_of 322 (by decide +kernel) rfl), (bw_of 323 (by decide +kernel) rfl), (bw_of 324 (by decide +kernel) rfl), rfl⟩
set_option maxRecDepth 100000 in
theorem lk_4_255 : lkG 4 255 1 MX2_total := ⟨(bw_of 278 (by decide +kernel) rfl), (bw_of 279 (by decide +kernel) rfl), (bw_of 280 (by decide +kernel) rfl), rfl⟩
set_option maxRecDepth 100000 in
theorem lk_4_252 : lkG 4 252 0 MX4_modeOf := ⟨(bw_of 689 (by decide +kernel) rfl), (bw_of 690 (by decide +kernel) rfl)⟩
set_option maxRecDepth 100000 in
theorem lk_4_249 : lkG 4 249 1 MX3_numberBetween := ⟨(bw_of 685 (by decide +kernel) rfl), (bw_of 686 (by decide +kernel) rfl), (bw_of 687 (by decide +kernel) rfl), rfl⟩
set_option maxRecDepth 100000 in
theorem lk_4_242 : lkG 4 242 0 MX4_bitsOfShare := ⟨(bw_of 432 (by decide +kernel) rfl), (bw_of 433 (by decide +kernel) rfl)⟩
set_option maxRecDepth 100000 in
theorem lk_4_238 : lkG 4 238 1 MX4_mixRow := ⟨(bw_of 386 (by decide +kernel) rfl), (bw_of 388 (by decide +kernel) rfl), (bw_of 3 (by decide +kernel) rfl), rfl⟩
set_option maxRecDepth 100000 in
theorem lk_4_234 : lkG 4 234 1 MX4_mixHand := ⟨(bw_of 303 (by decide +kernel) rfl), (bw_of 305 (by decide +kernel) rfl), (bw_of 1 (by decide +kernel) rfl), rfl⟩
set_option maxRecDepth 100000 in
theorem lk_4_230 : lkG 4 230 0 MX4_mix := ⟨(bw_of 298 (by decide +kernel) rfl), (bw_of 299 (by decide +kernel) rfl)⟩
set_option maxRecDepth 100000 in
theorem lk_4_224 : lkG 4 224 1 MX2_shareGranted := ⟨(bw_of 261 (by decide +kernel) rfl), (bw_of 262 (by decide +kernel) rfl), (bw_of 263 (by decide +kernel) rfl), rfl⟩
set_option maxRecDepth 100000 in
theorem lk_4_221 : lkG 4 221 1 MX2_mostWaitedFor := ⟨(bw_of 226 (by decide +kernel) rfl), (bw_of 227 (by decide +kernel) rfl), (bw_of 228 (by decide +kernel) rfl), rfl⟩
set_option maxRecDepth 100000 in
theorem lk_4_218 : lkG 4 218 1 MX2_reach := ⟨(bw_of 316 (by decide +kernel) rfl), (bw_of 244 (by decide +kernel) rfl), (bw_of 245 (by decide +kernel) rfl), rfl⟩
set_option maxRecDepth 100000 in
theorem lk_4_215 : lkG 4 215 1 MX2_ticksToBurn := ⟨(bw_of 403 (by decide +kernel) rfl), (bw_of 404 (by decide +kernel) rfl), (bw_of 405 (by decide +kernel) rfl), rfl⟩
set_option maxRecDepth 100000 in
theorem lk_4_212 : lkG 4 212 1 MX2_takersOf := ⟨(bw_of 420 (by decide +kernel) rfl), (bw_of 421 (by decide +kernel) rfl), (bw_of 422 (by decide +kernel) rfl), rfl⟩
set_option maxRecDepth 100000 in
theorem lk_4_209 : lkG 4 209 1 MX4_trialPart := ⟨(bw_of 414 (by decide +kernel) rfl), (bw_of 416 (by decide +kernel) rfl), (bw_of 4 (by decide +kernel) rfl), rfl⟩
set_option maxRecDepth 100000 in
theorem lk_4_206 : lkG 4 206 1 MX4_tryAsking := ⟨(bw_of 317 (by decide +kernel) rfl), (bw_of 319 (by decide +kernel) rfl), (bw_of 2 (by decide +kernel) rfl), rfl⟩
set_option maxRecDepth 100000 in
theorem lk_4_201 : lkG 4 201 1 MX4_numberOf := ⟨(bw_of 274 (by decide +kernel) rfl), (bw_of 276 (by decide +kernel) rfl), (bw_of 0 (by decide +kernel) rfl), rfl⟩
set_option maxRecDepth 100000 in
theorem lk_4_196 : lkG 4 196 1 MX2_requestPart := ⟨(bw_of 399 (by decide +kernel) rfl), (bw_of 400 (by decide +kernel) rfl), (bw_of 401 (by decide +kernel) rfl), rfl⟩
set_option maxRecDepth 100000 in
theorem lk_4_191 : lkG 4 191 1 MX2_rowPart := ⟨(bw_of 390 (by decide +kernel) rfl), (bw_of 391 (by decide +kernel) rfl), (bw_of 392 (by decide +kernel) rfl), rfl⟩
set_option maxRecDepth 100000 in
theorem lk_4_186 : lkG 4 186 1 MX2_handPart := ⟨(bw_of 307 (by decide +kernel) rfl), (bw_of 308 (by decide +kernel) rfl), (bw_of 309 (by decide +kernel) rfl), rfl⟩
set_option maxRecDepth 100000 in
theorem lk_4_181 : lkG 4 181 0 MX4_cell := ⟨(bw_of 315 (by decide +kernel) rfl), (bw_of 252 (by decide +kernel) rfl)⟩
set_option maxRecDepth 100000 in
theorem lk_4_174 : lkG 4 174 1 MX0_restore := ⟨(bw_of 700 (by decide +kernel) rfl), (bw_of 701 (by decide +kernel) rfl), (bw_of 702 (by decide +kernel) rfl), rfl⟩
set_option maxRecDepth 100000 in
theorem lk_4_166 : lkG 4 166 1 MX4_carryOut := ⟨(bw_of 681 (by decide +kernel) rfl), (bw_of 683 (by decide +kernel) rfl), (bw_of 7 (by decide +kernel) rfl), rfl⟩
set_option maxRecDepth 100000 in
theorem lk_4_163 : lkG 4 163 1 MX3_deedFrom := ⟨(bw_of 677 (by decide +kernel) rfl), (bw_of 678 (by decide +kernel) rfl), (bw_of 679 (by decide +kernel) rfl), rfl⟩
set_option maxRecDepth 100000 in
theorem lk_4_157 : lkG 4 157 1 MX3_isComplete := ⟨(bw_of 672 (by decide +kernel) rfl), (bw_of 673 (by decide +kernel) rfl), (bw_of 674 (by decide +kernel) rfl), rfl⟩
set_option maxRecDepth 100000 in
theorem lk_4_154 : lkG 4 154 1 MX3_firstFault := ⟨(bw_of 205 (by decide +kernel) rfl), (bw_of 206 (by decide +kernel) rfl), (bw_of 207 (by decide +kernel) rfl), rfl⟩
set_option maxRecDepth 100000 in
theorem lk_4_151 : lkG 4 151 1 MX3_empty := ⟨(bw_of 197 (by decide +kernel) rfl), (bw_of 198 (by decide +kernel) rfl), (bw_of 199 (by decide +kernel) rfl), rfl⟩
set_option maxRecDepth 100000 in
theorem lk_4_148 : lkG 4 148 1 MX3_add := ⟨(bw_of 660 (by decide +kernel) rfl), (bw_of 661 (by decide +kernel) rfl), (bw_of 662 (by decide +kernel) rfl), rfl⟩
set_option maxRecDepth 100000 in
theorem lk_4_132 : lkG 4 132 0 MX4_greatestValue := ⟨(bw_of 647 (by decide +kernel) rfl), (bw_of 648 (by decide +kernel) rfl)⟩
set_option maxRecDepth 100000 in
theorem lk_4_129 : lkG 4 129 0 MX4_leastValue := ⟨(bw_of 644 (by decide +kernel) rfl), (bw_of 645 (by decide +kernel) rfl)⟩
set_option maxRecDepth 100000 in
theorem lk_4_124 : lkG 4 124 0 MX4_isSetting := ⟨(bw_of 640 (by decide +kernel) rfl), (bw_of 641 (by decide +kernel) rfl)⟩
set_option maxRecDepth 100000 in
theorem lk_4_120 : lkG 4 120 1 MX1_put := ⟨(bw_of 632 (by decide +kernel) rfl), (bw_of 99 (by decide +kernel) rfl), (bw_of 100 (by decide +kernel) rfl), rfl⟩
set_option maxRecDepth 100000 in
theorem lk_4_115 : lkG 4 115 1 MX1_at := ⟨(bw_of 302 (by decide +kernel) rfl), (bw_of 210 (by decide +kernel) rfl), (bw_of 211 (by decide +kernel) rfl), rfl⟩
set_option maxRecDepth 100000 in
theorem lk_4_106 : lkG 4 106 1 MX2_holders := ⟨(bw_of 630 (by decide +kernel) rfl), (bw_of 295 (by decide +kernel) rfl), (bw_of 296 (by decide +kernel) rfl), rfl⟩
set_option maxRecDepth 100000 in
theorem lk_4_100 : lkG 4 100 1 MX2_tick := ⟨(bw_of 614 (by decide +kernel) rfl), (bw_of 615 (by decide +kernel) rfl), (bw_of 616 (by decide +kernel) rfl), rfl⟩
set_option maxRecDepth 100000 in
theorem lk_4_95 : lkG 4 95 1 MX2_passOver := ⟨(bw_of 602 (by decide +kernel) rfl), (bw_of 603 (by decide +kernel) rfl), (bw_of 604 (by decide +kernel) rfl), rfl⟩
set_option maxRecDepth 100000 in
theorem lk_4_89 : lkG 4 89 1 MX2_canPassOver := ⟨(bw_of 600 (by decide +kernel) rfl), (bw_of 425 (by decide +kernel) rfl), (bw_of 426 (by decide +kernel) rfl), rfl⟩
set_option maxRecDepth 100000 in
theorem lk_4_85 : lkG 4 85 1 MX2_stopWaiting := ⟨(bw_of 589 (by decide +kernel) rfl), (bw_of 590 (by decide +kernel) rfl), (bw_of 591 (by decide +kernel) rfl), rfl⟩
set_option maxRecDepth 100000 in
theorem lk_4_77 : lkG 4 77 1 MX2_letGo := ⟨(bw_of 576 (by decide +kernel) rfl), (bw_of 577 (by decide +kernel) rfl), (bw_of 578 (by decide +kernel) rfl), rfl⟩
set_option maxRecDepth 100000 in
theorem lk_4_71 : lkG 4 71 1 MX2_canLetGo := ⟨(bw_of 574 (by decide +kernel) rfl), (bw_of 429 (by decide +kernel) rfl), (bw_of 430 (by decide +kernel) rfl), rfl⟩
set_option maxRecDepth 100000 in
theorem lk_4_67 : lkG 4 67 1 MX2_takeAsking := ⟨(bw_of 333 (by decide +kernel) rfl), (bw_of 334 (by decide +kernel) rfl), (bw_of 335 (by decide +kernel) rfl), rfl⟩
set_option maxRecDepth 100000 in
theorem lk_4_63 : lkG 4 63 1 MX0_save := ⟨(bw_of 557 (by decide +kernel) rfl), (bw_of 558 (by decide +kernel) rfl), (bw_of 559 (by decide +kernel) rfl), rfl⟩
set_option maxRecDepth 100000 in
theorem lk_4_55 : lkG 4 55 1 MX2_isWaiting := ⟨(bw_of 321 (by decide +kernel) rfl), (bw_of 235 (by decide +kernel) rfl), (bw_of 236 (by decide +kernel) rfl), rfl⟩
set_option maxRecDepth 100000 in
theorem lk_4_47 : lkG 4 47 0 MX4_isMode := ⟨(bw_of 522 (by decide +kernel) rfl), (bw_of 523 (by decide +kernel) rfl)⟩
set_option maxRecDepth 100000 in
theorem lk_4_37 : lkG 4 37 0 MX4_isRow := ⟨(bw_of 451 (by decide +kernel) rfl), (bw_of 452 (by decide +kernel) rfl)⟩
set_option maxRecDepth 100000 in
theorem lk_4_33 : lkG 4 33 0 MX4_isHand := ⟨(bw_of 448 (by decide +kernel) rfl), (bw_of 449 (by decide +kernel) rfl)⟩
set_option maxRecDepth 100000 in
theorem clk_ok4 : ∀ q ∈ clk 4, lkG 4 q.1 q.2.1 q.2.2 ∧ miG q.2.2 := List.forall_mem_cons.mpr ⟨⟨lk_4_33, mi_X4_isHand⟩, List.forall_mem_cons.mpr ⟨⟨lk_4_37, mi_X4_isRow⟩, List.forall_mem_cons.mpr ⟨⟨lk_4_47, mi_X4_isMode⟩, List.forall_mem_cons.mpr ⟨⟨lk_4_55, mi_X2_isWaiting⟩, List.forall_mem_cons.mpr ⟨⟨lk_4_63, mi_X0_save⟩, List.forall_mem_cons.mpr ⟨⟨lk_4_67, mi_X2_takeAsking⟩, List.forall_mem_cons.mpr ⟨⟨lk_4_71, mi_X2_canLetGo⟩, List.forall_mem_cons.mpr ⟨⟨lk_4_77, mi_X2_letGo⟩, List.forall_mem_cons.mpr ⟨⟨lk_4_85, mi_X2_stopWaiting⟩, List.forall_mem_cons.mpr ⟨⟨lk_4_89, mi_X2_canPassOver⟩, List.forall_mem_cons.mpr ⟨⟨lk_4_95, mi_X2_passOver⟩, List.forall_mem_cons.mpr ⟨⟨lk_4_100, mi_X2_tick⟩, List.forall_mem_cons.mpr ⟨⟨lk_4_106, mi_X2_holders⟩, List.forall_mem_cons.mpr ⟨⟨lk_4_115, mi_X1_at⟩, List.forall_mem_cons.mpr ⟨⟨lk_4_120, mi_X1_put⟩, List.forall_mem_cons.mpr ⟨⟨lk_4_124, mi_X4_isSetting⟩, List.forall_mem_cons.mpr ⟨⟨lk_4_129, mi_X4_leastValue⟩, List.forall_mem_cons.mpr ⟨⟨lk_4_132, mi_X4_greatestValue⟩, List.forall_mem_cons.mpr ⟨⟨lk_4_148, mi_X3_add⟩, List.forall_mem_cons.mpr ⟨⟨lk_4_151, mi_X3_empty⟩, List.forall_mem_cons.mpr ⟨⟨lk_4_154, mi_X3_firstFault⟩, List.forall_mem_cons.mpr ⟨⟨lk_4_157, mi_X3_isComplete⟩, List.forall_mem_cons.mpr ⟨⟨lk_4_163, mi_X3_deedFrom⟩, List.forall_mem_cons.mpr ⟨⟨lk_4_166, mi_X4_carryOut⟩, List.forall_mem_cons.mpr ⟨⟨lk_4_174, mi_X0_restore⟩, List.forall_mem_cons.mpr ⟨⟨lk_4_181, mi_X4_cell⟩, List.forall_mem_cons.mpr ⟨⟨lk_4_186, mi_X2_handPart⟩, List.forall_mem_cons.mpr ⟨⟨lk_4_191, mi_X2_rowPart⟩, List.forall_mem_cons.mpr ⟨⟨lk_4_196, mi_X2_requestPart⟩, List.forall_mem_cons.mpr ⟨⟨lk_4_201, mi_X4_numberOf⟩, List.forall_mem_cons.mpr ⟨⟨lk_4_206, mi_X4_tryAsking⟩, List.forall_mem_cons.mpr ⟨⟨lk_4_209, mi_X4_trialPart⟩, List.forall_mem_cons.mpr ⟨⟨lk_4_212, mi_X2_takersOf⟩, List.forall_mem_cons.mpr ⟨⟨lk_4_215, mi_X2_ticksToBurn⟩, List.forall_mem_cons.mpr ⟨⟨lk_4_218, mi_X2_reach⟩, List.forall_mem_cons.mpr ⟨⟨lk_4_221, mi_X2_mostWaitedFor⟩, List.forall_mem_cons.mpr ⟨⟨lk_4_224, mi_X2_shareGranted⟩, List.forall_mem_cons.mpr ⟨⟨lk_4_230, mi_X4_mix⟩, List.forall_mem_cons.mpr ⟨⟨lk_4_234, mi_X4_mixHand⟩, List.forall_mem_cons.mpr ⟨⟨lk_4_238, mi_X4_mixRow⟩, List.forall_mem_cons.mpr ⟨⟨lk_4_242, mi_X4_bitsOfShare⟩, List.forall_mem_cons.mpr ⟨⟨lk_4_249, mi_X3_numberBetween⟩, List.forall_mem_cons.mpr ⟨⟨lk_4_252, mi_X4_modeOf⟩, List.forall_mem_cons.mpr ⟨⟨lk_4_255, mi_X2_total⟩, List.forall_mem_cons.mpr ⟨⟨lk_4_258, mi_X2_copyFrom⟩, List.forall_mem_cons.mpr ⟨⟨lk_4_264, mi_X1_sum⟩, List.forall_mem_cons.mpr ⟨⟨lk_4_267, mi_X2_lockCount⟩, List.forall_mem_cons.mpr ⟨⟨lk_4_272, mi_X2_queueLength⟩, fun _ h => nomatch h⟩⟩⟩⟩⟩⟩⟩⟩⟩⟩⟩⟩⟩⟩⟩⟩⟩⟩⟩⟩⟩⟩⟩⟩⟩⟩⟩⟩⟩⟩⟩⟩⟩⟩⟩⟩⟩⟩⟩⟩⟩⟩⟩⟩⟩⟩⟩⟩
set_option maxRecDepth 100000 in
theorem lk_5_236 : lkG 5 236 0 MJxe99ae_doubleToLongBits_ccdee := ⟨(bw_of 1148 (by decide +kernel) rfl), (bw_of 1149 (by decide +kernel) rfl)⟩
set_option maxRecDepth 100000 in
theorem lk_5_233 : lkG 5 233 1 MX5_mixRow := ⟨(bw_of 1144 (by decide +kernel) rfl), (bw_of 1146 (by decide +kernel) rfl), (bw_of 56 (by decide +kernel) rfl), rfl⟩
set_option maxRecDepth 100000 in
theorem lk_5_230 : lkG 5 230 1 MX5_mixHand := ⟨(bw_of 1140 (by decide +kernel) rfl), (bw_of 1142 (by decide +kernel) rfl), (bw_of 55 (by decide +kernel) rfl), rfl⟩
set_option maxRecDepth 100000 in
theorem lk_5_224 : lkG 5 224 1 MX5_mix := ⟨(bw_of 1135 (by decide +kernel) rfl), (bw_of 1137 (by decide +kernel) rfl), (bw_of 54 (by decide +kernel) rfl), rfl⟩
set_option maxRecDepth 100000 in
theorem lk_5_214 : lkG 5 214 1 MX5_share := ⟨(bw_of 1126 (by decide +kernel) rfl), (bw_of 1128 (by decide +kernel) rfl), (bw_of 53 (by decide +kernel) rfl), rfl⟩
set_option maxRecDepth 100000 in
theorem lk_5_211 : lkG 5 211 1 MX5_busiestNow := ⟨(bw_of 1118 (by decide +kernel) rfl), (bw_of 1120 (by decide +kernel) rfl), (bw_of 52 (by decide +kernel) rfl), rfl⟩
set_option maxRecDepth 100000 in
theorem lk_5_208 : lkG 5 208 1 MX5_burnsNow := ⟨(bw_of 1106 (by decide +kernel) rfl), (bw_of 1108 (by decide +kernel) rfl), (bw_of 51 (by decide +kernel) rfl), rfl⟩
set_option maxRecDepth 100000 in
theorem lk_5_205 : lkG 5 205 1 MX5_takersNow := ⟨(bw_of 1098 (by decide +kernel) rfl), (bw_of 1100 (by decide +kernel) rfl), (bw_of 50 (by decide +kernel) rfl), rfl⟩
set_option maxRecDepth 100000 in
theorem lk_5_201 : lkG 5 201 1 MX5_askedThen := ⟨(bw_of 1082 (by decide +kernel) rfl), (bw_of 1084 (by decide +kernel) rfl), (bw_of 47 (by decide +kernel) rfl), rfl⟩
set_option maxRecDepth 100000 in
theorem lk_5_198 : lkG 5 198 1 MX5_layBack := ⟨(bw_of 1090 (by decide +kernel) rfl), (bw_of 1092 (by decide +kernel) rfl), (bw_of 49 (by decide +kernel) rfl), rfl⟩
set_option maxRecDepth 100000 in
theorem lk_5_195 : lkG 5 195 1 MX5_keep := ⟨(bw_of 1086 (by decide +kernel) rfl), (bw_of 1088 (by decide +kernel) rfl), (bw_of 48 (by decide +kernel) rfl), rfl⟩
set_option maxRecDepth 100000 in
theorem lk_5_192 : lkG 5 192 1 MX5_counted := ⟨(bw_of 1058 (by decide +kernel) rfl), (bw_of 1060 (by decide +kernel) rfl), (bw_of 43 (by decide +kernel) rfl), rfl⟩
set_option maxRecDepth 100000 in
theorem lk_5_189 : lkG 5 189 1 MX5_heldRows := ⟨(bw_of 1070 (by decide +kernel) rfl), (bw_of 1072 (by decide +kernel) rfl), (bw_of 46 (by decide +kernel) rfl), rfl⟩
set_option maxRecDepth 100000 in
theorem lk_5_186 : lkG 5 186 1 MX5_sumFrom := ⟨(bw_of 1066 (by decide +kernel) rfl), (bw_of 1068 (by decide +kernel) rfl), (bw_of 45 (by decide +kernel) rfl), rfl⟩
set_option maxRecDepth 100000 in
theorem lk_5_183 : lkG 5 183 1 MX5_allLocks := ⟨(bw_of 1062 (by decide +kernel) rfl), (bw_of 1064 (by decide +kernel) rfl), (bw_of 44 (by decide +kernel) rfl), rfl⟩
set_option maxRecDepth 100000 in
theorem lk_5_180 : lkG 5 180 1 MX5_requestNow := ⟨(bw_of 1050 (by decide +kernel) rfl), (bw_of 1052 (by decide +kernel) rfl), (bw_of 42 (by decide +kernel) rfl), rfl⟩
set_option maxRecDepth 100000 in
theorem lk_5_177 : lkG 5 177 1 MX5_rowNow := ⟨(bw_of 1042 (by decide +kernel) rfl), (bw_of 1044 (by decide +kernel) rfl), (bw_of 41 (by decide +kernel) rfl), rfl⟩
set_option maxRecDepth 100000 in
theorem lk_5_174 : lkG 5 174 1 MX5_handNow := ⟨(bw_of 1030 (by decide +kernel) rfl), (bw_of 1032 (by decide +kernel) rfl), (bw_of 39 (by decide +kernel) rfl), rfl⟩
set_option maxRecDepth 100000 in
theorem lk_5_171 : lkG 5 171 1 MX5_locksOf := ⟨(bw_of 1034 (by decide +kernel) rfl), (bw_of 1036 (by decide +kernel) rfl), (bw_of 40 (by decide +kernel) rfl), rfl⟩
set_option maxRecDepth 100000 in
theorem lk_5_168 : lkG 5 168 1 MX5_carries := ⟨(bw_of 1014 (by decide +kernel) rfl), (bw_of 1016 (by decide +kernel) rfl), (bw_of 38 (by decide +kernel) rfl), rfl⟩
set_option maxRecDepth 100000 in
theorem lk_5_165 : lkG 5 165 1 MX5_rightUpTo := ⟨(bw_of 995 (by decide +kernel) rfl), (bw_of 997 (by decide +kernel) rfl), (bw_of 35 (by decide +kernel) rfl), rfl⟩
set_option maxRecDepth 100000 in
theorem lk_5_162 : lkG 5 162 1 MX5_takes := ⟨(bw_of 999 (by decide +kernel) rfl), (bw_of 1001 (by decide +kernel) rfl), (bw_of 36 (by decide +kernel) rfl), rfl⟩
set_option maxRecDepth 100000 in
theorem lk_5_159 : lkG 5 159 1 MX5_takesDigit := ⟨(bw_of 1006 (by decide +kernel) rfl), (bw_of 1008 (by decide +kernel) rfl), (bw_of 37 (by decide +kernel) rfl), rfl⟩
set_option maxRecDepth 100000 in
theorem lk_5_156 : lkG 5 156 0 MX5_modeOf := ⟨(bw_of 1003 (by decide +kernel) rfl), (bw_of 1004 (by decide +kernel) rfl)⟩
set_option maxRecDepth 100000 in
theorem lk_5_141 : lkG 5 141 0 MX5_isValue := ⟨(bw_of 980 (by decide +kernel) rfl), (bw_of 981 (by decide +kernel) rfl)⟩
set_option maxRecDepth 100000 in
theorem lk_5_138 : lkG 5 138 0 MX5_isSetting := ⟨(bw_of 977 (by decide +kernel) rfl), (bw_of 978 (by decide +kernel) rfl)⟩
set_option maxRecDepth 100000 in
theorem lk_5_135 : lkG 5 135 1 MX5_holders := ⟨(bw_of 969 (by decide +kernel) rfl), (bw_of 971 (by decide +kernel) rfl), (bw_of 34 (by decide +kernel) rfl), rfl⟩
set_option maxRecDepth 100000 in
theorem lk_5_131 : lkG 5 131 1 MX5_tick := ⟨(bw_of 953 (by decide +kernel) rfl), (bw_of 955 (by decide +kernel) rfl), (bw_of 31 (by decide +kernel) rfl), rfl⟩
set_option maxRecDepth 100000 in
theorem lk_5_128 : lkG 5 128 1 MX5_burn := ⟨(bw_of 961 (by decide +kernel) rfl), (bw_of 963 (by decide +kernel) rfl), (bw_of 33 (by decide +kernel) rfl), rfl⟩
set_option maxRecDepth 100000 in
theorem lk_5_125 : lkG 5 125 1 MX5_greatestOf := ⟨(bw_of 957 (by decide +kernel) rfl), (bw_of 959 (by decide +kernel) rfl), (bw_of 32 (by decide +kernel) rfl), rfl⟩
set_option maxRecDepth 100000 in
theorem lk_5_122 : lkG 5 122 1 MX5_canHandOn := ⟨(bw_of 945 (by decide +kernel) rfl), (bw_of 947 (by decide +kernel) rfl), (bw_of 30 (by decide +kernel) rfl), rfl⟩
set_option maxRecDepth 100000 in
theorem lk_5_119 : lkG 5 119 1 MX5_releases := ⟨(bw_of 933 (by decide +kernel) rfl), (bw_of 935 (by decide +kernel) rfl), (bw_of 29 (by decide +kernel) rfl), rfl⟩
set_option maxRecDepth 100000 in
theorem lk_5_116 : lkG 5 116 1 MX5_canRelease := ⟨(bw_of 929 (by decide +kernel) rfl), (bw_of 931 (by decide +kernel) rfl), (bw_of 28 (by decide +kernel) rfl), rfl⟩
set_option maxRecDepth 100000 in
theorem lk_5_113 : lkG 5 113 1 MX5_asks := ⟨(bw_of 865 (by decide +kernel) rfl), (bw_of 867 (by decide +kernel) rfl), (bw_of 13 (by decide +kernel) rfl), rfl⟩
set_option maxRecDepth 100000 in
theorem lk_5_110 : lkG 5 110 1 MX5_save := ⟨(bw_of 861 (by decide +kernel) rfl), (bw_of 863 (by decide +kernel) rfl), (bw_of 12 (by decide +kernel) rfl), rfl⟩
set_option maxRecDepth 100000 in
theorem lk_5_107 : lkG 5 107 0 MX5_isMode := ⟨(bw_of 842 (by decide +kernel) rfl), (bw_of 843 (by decide +kernel) rfl)⟩
set_option maxRecDepth 100000 in
theorem lk_5_103 : lkG 5 103 0 MX5_areThere := ⟨(bw_of 830 (by decide +kernel) rfl), (bw_of 831 (by decide +kernel) rfl)⟩
set_option maxRecDepth 100000 in
theorem lk_5_100 : lkG 5 100 1 MX5_waits := ⟨(bw_of 845 (by decide +kernel) rfl), (bw_of 847 (by decide +kernel) rfl), (bw_of 8 (by decide +kernel) rfl), rfl⟩
set_option maxRecDepth 100000 in
theorem lk_5_96 : lkG 5 96 1 MX5_lose := ⟨(bw_of 921 (by decide +kernel) rfl), (bw_of 923 (by decide +kernel) rfl), (bw_of 27 (by decide +kernel) rfl), rfl⟩
set_option maxRecDepth 100000 in
theorem lk_5_93 : lkG 5 93 1 MX5_loserFor := ⟨(bw_of 913 (by decide +kernel) rfl), (bw_of 915 (by decide +kernel) rfl), (bw_of 25 (by decide +kernel) rfl), rfl⟩
set_option maxRecDepth 100000 in
theorem lk_5_90 : lkG 5 90 1 MX5_isInRing := ⟨(bw_of 901 (by decide +kernel) rfl), (bw_of 903 (by decide +kernel) rfl), (bw_of 22 (by decide +kernel) rfl), rfl⟩
set_option maxRecDepth 100000 in
theorem lk_5_87 : lkG 5 87 1 MX5_enqueue := ⟨(bw_of 873 (by decide +kernel) rfl), (bw_of 875 (by decide +kernel) rfl), (bw_of 15 (by decide +kernel) rfl), rfl⟩
set_option maxRecDepth 100000 in
theorem lk_5_84 : lkG 5 84 1 MX5_settle := ⟨(bw_of 881 (by decide +kernel) rfl), (bw_of 883 (by decide +kernel) rfl), (bw_of 17 (by decide +kernel) rfl), rfl⟩
set_option maxRecDepth 100000 in
theorem lk_5_81 : lkG 5 81 1 MX5_workOf := ⟨(bw_of 917 (by decide +kernel) rfl), (bw_of 919 (by decide +kernel) rfl), (bw_of 26 (by decide +kernel) rfl), rfl⟩
set_option maxRecDepth 100000 in
theorem lk_5_78 : lkG 5 78 1 MX5_waitsOver := ⟨(bw_of 905 (by decide +kernel) rfl), (bw_of 907 (by decide +kernel) rfl), (bw_of 23 (by decide +kernel) rfl), rfl⟩
set_option maxRecDepth 100000 in
theorem lk_5_75 : lkG 5 75 1 MX5_grant := ⟨(bw_of 889 (by decide +kernel) rfl), (bw_of 891 (by decide +kernel) rfl), (bw_of 19 (by decide +kernel) rfl), rfl⟩
set_option maxRecDepth 100000 in
theorem lk_5_71 : lkG 5 71 1 MX5_unqueue := ⟨(bw_of 897 (by decide +kernel) rfl), (bw_of 899 (by decide +kernel) rfl), (bw_of 21 (by decide +kernel) rfl), rfl⟩
set_option maxRecDepth 100000 in
theorem lk_5_67 : lkG 5 67 1 MX5_setLock := ⟨(bw_of 893 (by decide +kernel) rfl), (bw_of 895 (by decide +kernel) rfl), (bw_of 20 (by decide +kernel) rfl), rfl⟩
set_option maxRecDepth 100000 in
theorem lk_5_64 : lkG 5 64 1 MX5_waitsNow := ⟨(bw_of 909 (by decide +kernel) rfl), (bw_of 911 (by decide +kernel) rfl), (bw_of 24 (by decide +kernel) rfl), rfl⟩
set_option maxRecDepth 100000 in
theorem lk_5_60 : lkG 5 60 1 MX5_clashing := ⟨(bw_of 885 (by decide +kernel) rfl), (bw_of 887 (by decide +kernel) rfl), (bw_of 18 (by decide +kernel) rfl), rfl⟩
set_option maxRecDepth 100000 in
theorem lk_5_57 : lkG 5 57 1 MX5_modeAt := ⟨(bw_of 877 (by decide +kernel) rfl), (bw_of 879 (by decide +kernel) rfl), (bw_of 16 (by decide +kernel) rfl), rfl⟩
set_option maxRecDepth 100000 in
theorem lk_5_54 : lkG 5 54 1 MX5_lockOf := ⟨(bw_of 869 (by decide +kernel) rfl), (bw_of 871 (by decide +kernel) rfl), (bw_of 14 (by decide +kernel) rfl), rfl⟩
set_option maxRecDepth 100000 in
theorem lk_5_50 : lkG 5 50 1 MX5_rowOf := ⟨(bw_of 849 (by decide +kernel) rfl), (bw_of 851 (by decide +kernel) rfl), (bw_of 9 (by decide +kernel) rfl), rfl⟩
set_option maxRecDepth 100000 in
theorem lk_5_47 : lkG 5 47 1 MX5_placeIn := ⟨(bw_of 853 (by decide +kernel) rfl), (bw_of 855 (by decide +kernel) rfl), (bw_of 10 (by decide +kernel) rfl), rfl⟩
set_option maxRecDepth 100000 in
theorem lk_5_43 : lkG 5 43 1 MX5_whoAt := ⟨(bw_of 857 (by decide +kernel) rfl), (bw_of 859 (by decide +kernel) rfl), (bw_of 11 (by decide +kernel) rfl), rfl⟩
set_option maxRecDepth 100000 in
theorem lk_5_40 : lkG 5 40 0 MX5_isRow := ⟨(bw_of 839 (by decide +kernel) rfl), (bw_of 840 (by decide +kernel) rfl)⟩
set_option maxRecDepth 100000 in
theorem lk_5_36 : lkG 5 36 0 MX5_isHand := ⟨(bw_of 833 (by decide +kernel) rfl), (bw_of 834 (by decide +kernel) rfl)⟩
set_option maxRecDepth 100000 in
theorem lk_5_32 : lkG 5 32 0 MX5_within := ⟨(bw_of 836 (by decide +kernel) rfl), (bw_of 837 (by decide +kernel) rfl)⟩
set_option maxRecDepth 100000 in
theorem clk_ok5 : ∀ q ∈ clk 5, lkG 5 q.1 q.2.1 q.2.2 ∧ miG q.2.2 := List.forall_mem_cons.mpr ⟨⟨lk_5_32, mi_X5_within⟩, List.forall_mem_cons.mpr ⟨⟨lk_5_36, mi_X5_isHand⟩, List.forall_mem_cons.mpr ⟨⟨lk_5_40, mi_X5_isRow⟩, List.forall_mem_cons.mpr ⟨⟨lk_5_43, mi_X5_whoAt⟩, List.forall_mem_cons.mpr ⟨⟨lk_5_47, mi_X5_placeIn⟩, List.forall_mem_cons.mpr ⟨⟨lk_5_50, mi_X5_rowOf⟩, List.forall_mem_cons.mpr ⟨⟨lk_5_54, mi_X5_lockOf⟩, List.forall_mem_cons.mpr ⟨⟨lk_5_57, mi_X5_modeAt⟩, List.forall_mem_cons.mpr ⟨⟨lk_5_60, mi_X5_clashing⟩, List.forall_mem_cons.mpr ⟨⟨lk_5_64, mi_X5_waitsNow⟩, List.forall_mem_cons.mpr ⟨⟨lk_5_67, mi_X5_setLock⟩, List.forall_mem_cons.mpr ⟨⟨lk_5_71, mi_X5_unqueue⟩, List.forall_mem_cons.mpr ⟨⟨lk_5_75, mi_X5_grant⟩, List.forall_mem_cons.mpr ⟨⟨lk_5_78, mi_X5_waitsOver⟩, List.forall_mem_cons.mpr ⟨⟨lk_5_81, mi_X5_workOf⟩, List.forall_mem_cons.mpr ⟨⟨lk_5_84, mi_X5_settle⟩, List.forall_mem_cons.mpr ⟨⟨lk_5_87, mi_X5_enqueue⟩, List.forall_mem_cons.mpr ⟨⟨lk_5_90, mi_X5_isInRing⟩, List.forall_mem_cons.mpr ⟨⟨lk_5_93, mi_X5_loserFor⟩, List.forall_mem_cons.mpr ⟨⟨lk_5_96, mi_X5_lose⟩, List.forall_mem_cons.mpr ⟨⟨lk_5_100, mi_X5_waits⟩, List.forall_mem_cons.mpr ⟨⟨lk_5_103, mi_X5_areThere⟩, List.forall_mem_cons.mpr ⟨⟨lk_5_107, mi_X5_isMode⟩, List.forall_mem_cons.mpr ⟨⟨lk_5_110, mi_X5_save⟩, List.forall_mem_cons.mpr ⟨⟨lk_5_113, mi_X5_asks⟩, List.forall_mem_cons.mpr ⟨⟨lk_5_116, mi_X5_canRelease⟩, List.forall_mem_cons.mpr ⟨⟨lk_5_119, mi_X5_releases⟩, List.forall_mem_cons.mpr ⟨⟨lk_5_122, mi_X5_canHandOn⟩, List.forall_mem_cons.mpr ⟨⟨lk_5_125, mi_X5_greatestOf⟩, List.forall_mem_cons.mpr ⟨⟨lk_5_128, mi_X5_burn⟩, List.forall_mem_cons.mpr ⟨⟨lk_5_131, mi_X5_tick⟩, List.forall_mem_cons.mpr ⟨⟨lk_5_135, mi_X5_holders⟩, List.forall_mem_cons.mpr ⟨⟨lk_5_138, mi_X5_isSetting⟩, List.forall_mem_cons.mpr ⟨⟨lk_5_141, mi_X5_isValue⟩, List.forall_mem_cons.mpr ⟨⟨lk_5_156, mi_X5_modeOf⟩, List.forall_mem_cons.mpr ⟨⟨lk_5_159, mi_X5_takesDigit⟩, List.forall_mem_cons.mpr ⟨⟨lk_5_162, mi_X5_takes⟩, List.forall_mem_cons.mpr ⟨⟨lk_5_165, mi_X5_rightUpTo⟩, List.forall_mem_cons.mpr ⟨⟨lk_5_168, mi_X5_carries⟩, List.forall_mem_cons.mpr ⟨⟨lk_5_171, mi_X5_locksOf⟩, List.forall_mem_cons.mpr ⟨⟨lk_5_174, mi_X5_handNow⟩, List.forall_mem_cons.mpr ⟨⟨lk_5_177, mi_X5_rowNow⟩, List.forall_mem_cons.mpr ⟨⟨lk_5_180, mi_X5_requestNow⟩, List.forall_mem_cons.mpr ⟨⟨lk_5_183, mi_X5_allLocks⟩, List.forall_mem_cons.mpr ⟨⟨lk_5_186, mi_X5_sumFrom⟩, List.forall_mem_cons.mpr ⟨⟨lk_5_189, mi_X5_heldRows⟩, List.forall_mem_cons.mpr ⟨⟨lk_5_192, mi_X5_counted⟩, List.forall_mem_cons.mpr ⟨⟨lk_5_195, mi_X5_keep⟩, List.forall_mem_cons.mpr ⟨⟨lk_5_198, mi_X5_layBack⟩, List.forall_mem_cons.mpr ⟨⟨lk_5_201, mi_X5_askedThen⟩, List.forall_mem_cons.mpr ⟨⟨lk_5_205, mi_X5_takersNow⟩, List.forall_mem_cons.mpr ⟨⟨lk_5_208, mi_X5_burnsNow⟩, List.forall_mem_cons.mpr ⟨⟨lk_5_211, mi_X5_busiestNow⟩, List.forall_mem_cons.mpr ⟨⟨lk_5_214, mi_X5_share⟩, List.forall_mem_cons.mpr ⟨⟨lk_5_224, mi_X5_mix⟩, List.forall_mem_cons.mpr ⟨⟨lk_5_230, mi_X5_mixHand⟩, List.forall_mem_cons.mpr ⟨⟨lk_5_233, mi_X5_mixRow⟩, List.forall_mem_cons.mpr ⟨⟨lk_5_236, mi_Jxe99ae_doubleToLongBits_ccdee⟩, fun _ h => nomatch h⟩⟩⟩⟩⟩⟩⟩⟩⟩⟩⟩⟩⟩⟩⟩⟩⟩⟩⟩⟩⟩⟩⟩⟩⟩⟩⟩⟩⟩⟩⟩⟩⟩⟩⟩⟩⟩⟩⟩⟩⟩⟩⟩⟩⟩⟩⟩⟩⟩⟩⟩⟩⟩⟩⟩⟩⟩⟩
set_option maxRecDepth 100000 in
theorem lk_6_175 : lkG 6 175 1 MX5_digest := ⟨(bw_of 1130 (by decide +kernel) rfl), (bw_of 1131 (by decide +kernel) rfl), (bw_of 1132 (by decide +kernel) rfl), rfl⟩
set_option maxRecDepth 100000 in
theorem lk_6_171 : lkG 6 171 1 MX4_digest := ⟨(bw_of 269 (by decide +kernel) rfl), (bw_of 270 (by decide +kernel) rfl), (bw_of 271 (by decide +kernel) rfl), rfl⟩
set_option maxRecDepth 100000 in
theorem lk_6_170 : lkG 6 170 1 MX5_grantedShare := ⟨(bw_of 1122 (by decide +kernel) rfl), (bw_of 1123 (by decide +kernel) rfl), (bw_of 1124 (by decide +kernel) rfl), rfl⟩
set_option maxRecDepth 100000 in
theorem lk_6_166 : lkG 6 166 1 MX4_grantedShare := ⟨(bw_of 257 (by decide +kernel) rfl), (bw_of 258 (by decide +kernel) rfl), (bw_of 259 (by decide +kernel) rfl), rfl⟩
set_option maxRecDepth 100000 in
theorem lk_6_165 : lkG 6 165 1 MX5_busiest := ⟨(bw_of 1114 (by decide +kernel) rfl), (bw_of 1115 (by decide +kernel) rfl), (bw_of 1116 (by decide +kernel) rfl), rfl⟩
set_option maxRecDepth 100000 in
theorem lk_6_162 : lkG 6 162 1 MX4_busiest := ⟨(bw_of 222 (by decide +kernel) rfl), (bw_of 223 (by decide +kernel) rfl), (bw_of 224 (by decide +kernel) rfl), rfl⟩
set_option maxRecDepth 100000 in
theorem lk_6_161 : lkG 6 161 1 MX5_waitsFor := ⟨(bw_of 1110 (by decide +kernel) rfl), (bw_of 1111 (by decide +kernel) rfl), (bw_of 1112 (by decide +kernel) rfl), rfl⟩
set_option maxRecDepth 100000 in
theorem lk_6_158 : lkG 6 158 1 MX5_burnsIn := ⟨(bw_of 1102 (by decide +kernel) rfl), (bw_of 1103 (by decide +kernel) rfl), (bw_of 1104 (by decide +kernel) rfl), rfl⟩
set_option maxRecDepth 100000 in
theorem lk_6_155 : lkG 6 155 1 MX5_takers := ⟨(bw_of 1094 (by decide +kernel) rfl), (bw_of 1095 (by decide +kernel) rfl), (bw_of 1096 (by decide +kernel) rfl), rfl⟩
set_option maxRecDepth 100000 in
theorem lk_6_152 : lkG 6 152 1 MX5_ifAsked := ⟨(bw_of 1078 (by decide +kernel) rfl), (bw_of 1079 (by decide +kernel) rfl), (bw_of 1080 (by decide +kernel) rfl), rfl⟩
set_option maxRecDepth 100000 in
theorem lk_6_148 : lkG 6 148 1 MX5_setting := ⟨(bw_of 1074 (by decide +kernel) rfl), (bw_of 1075 (by decide +kernel) rfl), (bw_of 1076 (by decide +kernel) rfl), rfl⟩
set_option maxRecDepth 100000 in
theorem lk_6_145 : lkG 6 145 1 MX5_count := ⟨(bw_of 1054 (by decide +kernel) rfl), (bw_of 1055 (by decide +kernel) rfl), (bw_of 1056 (by decide +kernel) rfl), rfl⟩
set_option maxRecDepth 100000 in
theorem lk_6_142 : lkG 6 142 1 MX5_request := ⟨(bw_of 1046 (by decide +kernel) rfl), (bw_of 1047 (by decide +kernel) rfl), (bw_of 1048 (by decide +kernel) rfl), rfl⟩
set_option maxRecDepth 100000 in
theorem lk_6_139 : lkG 6 139 1 MX5_row := ⟨(bw_of 1038 (by decide +kernel) rfl), (bw_of 1039 (by decide +kernel) rfl), (bw_of 1040 (by decide +kernel) rfl), rfl⟩
set_option maxRecDepth 100000 in
theorem lk_6_136 : lkG 6 136 1 MX5_hand := ⟨(bw_of 1026 (by decide +kernel) rfl), (bw_of 1027 (by decide +kernel) rfl), (bw_of 1028 (by decide +kernel) rfl), rfl⟩
set_option maxRecDepth 100000 in
theorem lk_6_133 : lkG 6 133 1 MX5_lock := ⟨(bw_of 1022 (by decide +kernel) rfl), (bw_of 1023 (by decide +kernel) rfl), (bw_of 1024 (by decide +kernel) rfl), rfl⟩
set_option maxRecDepth 100000 in
theorem lk_6_130 : lkG 6 130 1 MX5_undo := ⟨(bw_of 1018 (by decide +kernel) rfl), (bw_of 1019 (by decide +kernel) rfl), (bw_of 1020 (by decide +kernel) rfl), rfl⟩
set_option maxRecDepth 100000 in
theorem lk_6_127 : lkG 6 127 1 MX5_run := ⟨(bw_of 1010 (by decide +kernel) rfl), (bw_of 1011 (by decide +kernel) rfl), (bw_of 1012 (by decide +kernel) rfl), rfl⟩
set_option maxRecDepth 100000 in
theorem lk_6_123 : lkG 6 123 1 MX5_firstError := ⟨(bw_of 991 (by decide +kernel) rfl), (bw_of 992 (by decide +kernel) rfl), (bw_of 993 (by decide +kernel) rfl), rfl⟩
set_option maxRecDepth 100000 in
theorem lk_6_120 : lkG 6 120 1 MX4_firstError := ⟨(bw_of 201 (by decide +kernel) rfl), (bw_of 202 (by decide +kernel) rfl), (bw_of 203 (by decide +kernel) rfl), rfl⟩
set_option maxRecDepth 100000 in
theorem lk_6_119 : lkG 6 119 1 MX5_clearBuffer := ⟨(bw_of 987 (by decide +kernel) rfl), (bw_of 988 (by decide +kernel) rfl), (bw_of 989 (by decide +kernel) rfl), rfl⟩
set_option maxRecDepth 100000 in
theorem lk_6_116 : lkG 6 116 1 MX4_clearBuffer := ⟨(bw_of 193 (by decide +kernel) rfl), (bw_of 194 (by decide +kernel) rfl), (bw_of 195 (by decide +kernel) rfl), rfl⟩
set_option maxRecDepth 100000 in
theorem lk_6_115 : lkG 6 115 1 MX5_append := ⟨(bw_of 983 (by decide +kernel) rfl), (bw_of 984 (by decide +kernel) rfl), (bw_of 985 (by decide +kernel) rfl), rfl⟩
set_option maxRecDepth 100000 in
theorem lk_6_112 : lkG 6 112 1 MX5_set := ⟨(bw_of 973 (by decide +kernel) rfl), (bw_of 974 (by decide +kernel) rfl), (bw_of 975 (by decide +kernel) rfl), rfl⟩
set_option maxRecDepth 100000 in
theorem lk_6_109 : lkG 6 109 1 MX5_cool := ⟨(bw_of 965 (by decide +kernel) rfl), (bw_of 966 (by decide +kernel) rfl), (bw_of 967 (by decide +kernel) rfl), rfl⟩
set_option maxRecDepth 100000 in
theorem lk_6_106 : lkG 6 106 1 MX5_pass := ⟨(bw_of 949 (by decide +kernel) rfl), (bw_of 950 (by decide +kernel) rfl), (bw_of 951 (by decide +kernel) rfl), rfl⟩
set_option maxRecDepth 100000 in
theorem lk_6_103 : lkG 6 103 1 MX5_handOn := ⟨(bw_of 941 (by decide +kernel) rfl), (bw_of 942 (by decide +kernel) rfl), (bw_of 943 (by decide +kernel) rfl), rfl⟩
set_option maxRecDepth 100000 in
theorem lk_6_100 : lkG 6 100 1 MX5_giveUp := ⟨(bw_of 937 (by decide +kernel) rfl), (bw_of 938 (by decide +kernel) rfl), (bw_of 939 (by decide +kernel) rfl), rfl⟩
set_option maxRecDepth 100000 in
theorem lk_6_96 : lkG 6 96 1 MX5_release := ⟨(bw_of 925 (by decide +kernel) rfl), (bw_of 926 (by decide +kernel) rfl), (bw_of 927 (by decide +kernel) rfl), rfl⟩
set_option maxRecDepth 100000 in
theorem lk_6_90 : lkG 6 90 1 MX5_thrown := ⟨(bw_of 822 (by decide +kernel) rfl), (bw_of 823 (by decide +kernel) rfl), (bw_of 824 (by decide +kernel) rfl), rfl⟩
set_option maxRecDepth 100000 in
theorem lk_6_89 : lkG 6 89 1 MX5_ask := ⟨(bw_of 826 (by decide +kernel) rfl), (bw_of 827 (by decide +kernel) rfl), (bw_of 828 (by decide +kernel) rfl), rfl⟩
set_option maxRecDepth 100000 in
theorem lk_6_77 : lkG 6 77 1 MX4_waitsFor := ⟨(bw_of 775 (by decide +kernel) rfl), (bw_of 776 (by decide +kernel) rfl), (bw_of 777 (by decide +kernel) rfl), rfl⟩
set_option maxRecDepth 100000 in
theorem lk_6_74 : lkG 6 74 1 MX4_burnsIn := ⟨(bw_of 768 (by decide +kernel) rfl), (bw_of 769 (by decide +kernel) rfl), (bw_of 770 (by decide +kernel) rfl), rfl⟩
set_option maxRecDepth 100000 in
theorem lk_6_71 : lkG 6 71 1 MX4_takers := ⟨(bw_of 761 (by decide +kernel) rfl), (bw_of 762 (by decide +kernel) rfl), (bw_of 763 (by decide +kernel) rfl), rfl⟩
set_option maxRecDepth 100000 in
theorem lk_6_67 : lkG 6 67 1 MX4_ifAsked := ⟨(bw_of 753 (by decide +kernel) rfl), (bw_of 754 (by decide +kernel) rfl), (bw_of 755 (by decide +kernel) rfl), rfl⟩
set_option maxRecDepth 100000 in
theorem lk_6_64 : lkG 6 64 1 MX4_setting := ⟨(bw_of 746 (by decide +kernel) rfl), (bw_of 747 (by decide +kernel) rfl), (bw_of 748 (by decide +kernel) rfl), rfl⟩
set_option maxRecDepth 100000 in
theorem lk_6_61 : lkG 6 61 1 MX4_count := ⟨(bw_of 738 (by decide +kernel) rfl), (bw_of 739 (by decide +kernel) rfl), (bw_of 740 (by decide +kernel) rfl), rfl⟩
set_option maxRecDepth 100000 in
theorem lk_6_58 : lkG 6 58 1 MX4_request := ⟨(bw_of 730 (by decide +kernel) rfl), (bw_of 731 (by decide +kernel) rfl), (bw_of 732 (by decide +kernel) rfl), rfl⟩
set_option maxRecDepth 100000 in
theorem lk_6_55 : lkG 6 55 1 MX4_row := ⟨(bw_of 722 (by decide +kernel) rfl), (bw_of 723 (by decide +kernel) rfl), (bw_of 724 (by decide +kernel) rfl), rfl⟩
set_option maxRecDepth 100000 in
theorem lk_6_52 : lkG 6 52 1 MX4_hand := ⟨(bw_of 714 (by decide +kernel) rfl), (bw_of 715 (by decide +kernel) rfl), (bw_of 716 (by decide +kernel) rfl), rfl⟩
set_option maxRecDepth 100000 in
theorem lk_6_49 : lkG 6 49 1 MX4_lock := ⟨(bw_of 707 (by decide +kernel) rfl), (bw_of 708 (by decide +kernel) rfl), (bw_of 709 (by decide +kernel) rfl), rfl⟩
set_option maxRecDepth 100000 in
theorem lk_6_46 : lkG 6 46 1 MX4_undo := ⟨(bw_of 695 (by decide +kernel) rfl), (bw_of 696 (by decide +kernel) rfl), (bw_of 697 (by decide +kernel) rfl), rfl⟩
set_option maxRecDepth 100000 in
theorem lk_6_42 : lkG 6 42 1 MX4_run := ⟨(bw_of 668 (by decide +kernel) rfl), (bw_of 669 (by decide +kernel) rfl), (bw_of 670 (by decide +kernel) rfl), rfl⟩
set_option maxRecDepth 100000 in
theorem lk_6_39 : lkG 6 39 1 MX4_append := ⟨(bw_of 654 (by decide +kernel) rfl), (bw_of 655 (by decide +kernel) rfl), (bw_of 656 (by decide +kernel) rfl), rfl⟩
set_option maxRecDepth 100000 in
theorem lk_6_36 : lkG 6 36 1 MX4_set := ⟨(bw_of 636 (by decide +kernel) rfl), (bw_of 637 (by decide +kernel) rfl), (bw_of 638 (by decide +kernel) rfl), rfl⟩
set_option maxRecDepth 100000 in
theorem lk_6_33 : lkG 6 33 1 MX4_cool := ⟨(bw_of 625 (by decide +kernel) rfl), (bw_of 626 (by decide +kernel) rfl), (bw_of 627 (by decide +kernel) rfl), rfl⟩
set_option maxRecDepth 100000 in
theorem lk_6_30 : lkG 6 30 1 MX4_pass := ⟨(bw_of 609 (by decide +kernel) rfl), (bw_of 610 (by decide +kernel) rfl), (bw_of 611 (by decide +kernel) rfl), rfl⟩
set_option maxRecDepth 100000 in
theorem lk_6_27 : lkG 6 27 1 MX4_handOn := ⟨(bw_of 596 (by decide +kernel) rfl), (bw_of 597 (by decide +kernel) rfl), (bw_of 598 (by decide +kernel) rfl), rfl⟩
set_option maxRecDepth 100000 in
theorem lk_6_23 : lkG 6 23 1 MX4_giveUp := ⟨(bw_of 583 (by decide +kernel) rfl), (bw_of 584 (by decide +kernel) rfl), (bw_of 585 (by decide +kernel) rfl), rfl⟩
set_option maxRecDepth 100000 in
theorem lk_6_19 : lkG 6 19 1 MX4_release := ⟨(bw_of 570 (by decide +kernel) rfl), (bw_of 571 (by decide +kernel) rfl), (bw_of 572 (by decide +kernel) rfl), rfl⟩
set_option maxRecDepth 100000 in
theorem lk_6_7 : lkG 6 7 1 MX4_ask := ⟨(bw_of 444 (by decide +kernel) rfl), (bw_of 445 (by decide +kernel) rfl), (bw_of 446 (by decide +kernel) rfl), rfl⟩
set_option maxRecDepth 100000 in
theorem clk_ok6 : ∀ q ∈ clk 6, lkG 6 q.1 q.2.1 q.2.2 ∧ miG q.2.2 := List.forall_mem_cons.mpr ⟨⟨lk_6_7, mi_X4_ask⟩, List.forall_mem_cons.mpr ⟨⟨lk_6_19, mi_X4_release⟩, List.forall_mem_cons.mpr ⟨⟨lk_6_23, mi_X4_giveUp⟩, List.forall_mem_cons.mpr ⟨⟨lk_6_27, mi_X4_handOn⟩, List.forall_mem_cons.mpr ⟨⟨lk_6_30, mi_X4_pass⟩, List.forall_mem_cons.mpr ⟨⟨lk_6_33, mi_X4_cool⟩, List.forall_mem_cons.mpr ⟨⟨lk_6_36, mi_X4_set⟩, List.forall_mem_cons.mpr ⟨⟨lk_6_39, mi_X4_append⟩, List.forall_mem_cons.mpr ⟨⟨lk_6_42, mi_X4_run⟩, List.forall_mem_cons.mpr ⟨⟨lk_6_46, mi_X4_undo⟩, List.forall_mem_cons.mpr ⟨⟨lk_6_49, mi_X4_lock⟩, List.forall_mem_cons.mpr ⟨⟨lk_6_52, mi_X4_hand⟩, List.forall_mem_cons.mpr ⟨⟨lk_6_55, mi_X4_row⟩, List.forall_mem_cons.mpr ⟨⟨lk_6_58, mi_X4_request⟩, List.forall_mem_cons.mpr ⟨⟨lk_6_61, mi_X4_count⟩, List.forall_mem_cons.mpr ⟨⟨lk_6_64, mi_X4_setting⟩, List.forall_mem_cons.mpr ⟨⟨lk_6_67, mi_X4_ifAsked⟩, List.forall_mem_cons.mpr ⟨⟨lk_6_71, mi_X4_takers⟩, List.forall_mem_cons.mpr ⟨⟨lk_6_74, mi_X4_burnsIn⟩, List.forall_mem_cons.mpr ⟨⟨lk_6_77, mi_X4_waitsFor⟩, List.forall_mem_cons.mpr ⟨⟨lk_6_89, mi_X5_ask⟩, List.forall_mem_cons.mpr ⟨⟨lk_6_90, mi_X5_thrown⟩, List.forall_mem_cons.mpr ⟨⟨lk_6_96, mi_X5_release⟩, List.forall_mem_cons.mpr ⟨⟨lk_6_100, mi_X5_giveUp⟩, List.forall_mem_cons.mpr ⟨⟨lk_6_103, mi_X5_handOn⟩, List.forall_mem_cons.mpr ⟨⟨lk_6_106, mi_X5_pass⟩, List.forall_mem_cons.mpr ⟨⟨lk_6_109, mi_X5_cool⟩, List.forall_mem_cons.mpr ⟨⟨lk_6_112, mi_X5_set⟩, List.forall_mem_cons.mpr ⟨⟨lk_6_115, mi_X5_append⟩, List.forall_mem_cons.mpr ⟨⟨lk_6_116, mi_X4_clearBuffer⟩, List.forall_mem_cons.mpr ⟨⟨lk_6_119, mi_X5_clearBuffer⟩, List.forall_mem_cons.mpr ⟨⟨lk_6_120, mi_X4_firstError⟩, List.forall_mem_cons.mpr ⟨⟨lk_6_123, mi_X5_firstError⟩, List.forall_mem_cons.mpr ⟨⟨lk_6_127, mi_X5_run⟩, List.forall_mem_cons.mpr ⟨⟨lk_6_130, mi_X5_undo⟩, List.forall_mem_cons.mpr ⟨⟨lk_6_133, mi_X5_lock⟩, List.forall_mem_cons.mpr ⟨⟨lk_6_136, mi_X5_hand⟩, List.forall_mem_cons.mpr ⟨⟨lk_6_139, mi_X5_row⟩, List.forall_mem_cons.mpr ⟨⟨lk_6_142, mi_X5_request⟩, List.forall_mem_cons.mpr ⟨⟨lk_6_145, mi_X5_count⟩, List.forall_mem_cons.mpr ⟨⟨lk_6_148, mi_X5_setting⟩, List.forall_mem_cons.mpr ⟨⟨lk_6_152, mi_X5_ifAsked⟩, List.forall_mem_cons.mpr ⟨⟨lk_6_155, mi_X5_takers⟩, List.forall_mem_cons.mpr ⟨⟨lk_6_158, mi_X5_burnsIn⟩, List.forall_mem_cons.mpr ⟨⟨lk_6_161, mi_X5_waitsFor⟩, List.forall_mem_cons.mpr ⟨⟨lk_6_162, mi_X4_busiest⟩, List.forall_mem_cons.mpr ⟨⟨lk_6_165, mi_X5_busiest⟩, List.forall_mem_cons.mpr ⟨⟨lk_6_166, mi_X4_grantedShare⟩, List.forall_mem_cons.mpr ⟨⟨lk_6_170, mi_X5_grantedShare⟩, List.forall_mem_cons.mpr ⟨⟨lk_6_171, mi_X4_digest⟩, List.forall_mem_cons.mpr ⟨⟨lk_6_175, mi_X5_digest⟩, fun _ h => nomatch h⟩⟩⟩⟩⟩⟩⟩⟩⟩⟩⟩⟩⟩⟩⟩⟩⟩⟩⟩⟩⟩⟩⟩⟩⟩⟩⟩⟩⟩⟩⟩⟩⟩⟩⟩⟩⟩⟩⟩⟩⟩⟩⟩⟩⟩⟩⟩⟩⟩⟩⟩
set_option maxRecDepth 100000 in
theorem lk_7_122 : lkG 7 122 0 MJxe99ae_isNaN_b9ae7 := ⟨(bw_of 1151 (by decide +kernel) rfl), (bw_of 1152 (by decide +kernel) rfl)⟩
set_option maxRecDepth 100000 in
theorem clk_ok7 : ∀ q ∈ clk 7, lkG 7 q.1 q.2.1 q.2.2 ∧ miG q.2.2 := List.forall_mem_cons.mpr ⟨⟨lk_7_122, mi_Jxe99ae_isNaN_b9ae7⟩, fun _ h => nomatch h⟩
theorem clk_ok (o : Nat) : ∀ q ∈ clk o, lkG o q.1 q.2.1 q.2.2 ∧ miG q.2.2 := match o with
  | 0 => clk_ok0
  | 1 => clk_ok1
  | 2 => clk_ok2
  | 3 => clk_ok3
  | 4 => clk_ok4
  | 5 => clk_ok5
  | 6 => clk_ok6
  | 7 => clk_ok7
  | _ + 8 => fun _ h => nomatch h
theorem wok : WOK := ⟨flk_ok, llk_ok, dlk_ok, fun _ _ h => nlk_ok0 h, fun _ _ h => nlk_ok1 h, fun _ _ h => nlk_ok2 h, fun _ _ h => nlk_ok3 h, fun _ _ h => clG_ok h, ipl_ok, lpl_ok, clk_ok⟩
