set_option maxRecDepth 100000 in
theorem flk_ok0 : ∀ q ∈ flk 0, flG 0 q.1 q.2.1 q.2.2 := List.forall_mem_cons.mpr ⟨⟨_, rfl, (by decide +kernel), rfl, (bw_of 94 (by decide +kernel) rfl)⟩, List.forall_mem_cons.mpr ⟨⟨_, rfl, (by decide +kernel), rfl, (bw_of 95 (by decide +kernel) rfl)⟩, List.forall_mem_cons.mpr ⟨⟨_, rfl, (by decide +kernel), rfl, (bw_of 96 (by decide +kernel) rfl)⟩, fun _ h => nomatch h⟩⟩⟩
set_option maxRecDepth 100000 in
theorem flk_ok1 : ∀ q ∈ flk 1, flG 1 q.1 q.2.1 q.2.2 := List.forall_mem_cons.mpr ⟨⟨_, rfl, (by decide +kernel), rfl, (bw_of 37 (by decide +kernel) rfl)⟩, fun _ h => nomatch h⟩
set_option maxRecDepth 100000 in
theorem flk_ok2 : ∀ q ∈ flk 2, flG 2 q.1 q.2.1 q.2.2 := List.forall_mem_cons.mpr ⟨⟨_, rfl, (by decide +kernel), rfl, (bw_of 46 (by decide +kernel) rfl)⟩, List.forall_mem_cons.mpr ⟨⟨_, rfl, (by decide +kernel), rfl, (bw_of 48 (by decide +kernel) rfl)⟩, List.forall_mem_cons.mpr ⟨⟨_, rfl, (by decide +kernel), rfl, (bw_of 49 (by decide +kernel) rfl)⟩, List.forall_mem_cons.mpr ⟨⟨_, rfl, (by decide +kernel), rfl, (bw_of 50 (by decide +kernel) rfl)⟩, List.forall_mem_cons.mpr ⟨⟨_, rfl, (by decide +kernel), rfl, (bw_of 51 (by decide +kernel) rfl)⟩, List.forall_mem_cons.mpr ⟨⟨_, rfl, (by decide +kernel), rfl, (bw_of 52 (by decide +kernel) rfl)⟩, List.forall_mem_cons.mpr ⟨⟨_, rfl, (by decide +kernel), rfl, (bw_of 53 (by decide +kernel) rfl)⟩, List.forall_mem_cons.mpr ⟨⟨_, rfl, (by decide +kernel), rfl, (bw_of 54 (by decide +kernel) rfl)⟩, List.forall_mem_cons.mpr ⟨⟨_, rfl, (by decide +kernel), rfl, (bw_of 55 (by decide +kernel) rfl)⟩, List.forall_mem_cons.mpr ⟨⟨_, rfl, (by decide +kernel), rfl, (bw_of 56 (by decide +kernel) rfl)⟩, List.forall_mem_cons.mpr ⟨⟨_, rfl, (by decide +kernel), rfl, (bw_of 57 (by decide +kernel) rfl)⟩, List.forall_mem_cons.mpr ⟨⟨_, rfl, (by decide +kernel), rfl, (bw_of 59 (by decide +kernel) rfl)⟩, fun _ h => nomatch h⟩⟩⟩⟩⟩⟩⟩⟩⟩⟩⟩⟩
set_option maxRecDepth 100000 in
theorem flk_ok3 : ∀ q ∈ flk 3, flG 3 q.1 q.2.1 q.2.2 := List.forall_mem_cons.mpr ⟨⟨_, rfl, (by decide +kernel), rfl, (bw_of 113 (by decide +kernel) rfl)⟩, List.forall_mem_cons.mpr ⟨⟨_, rfl, (by decide +kernel), rfl, (bw_of 114 (by decide +kernel) rfl)⟩, fun _ h => nomatch h⟩⟩
set_option maxRecDepth 100000 in
theorem flk_ok4 : ∀ q ∈ flk 4, flG 4 q.1 q.2.1 q.2.2 := List.forall_mem_cons.mpr ⟨⟨_, rfl, (by decide +kernel), rfl, (bw_of 120 (by decide +kernel) rfl)⟩, List.forall_mem_cons.mpr ⟨⟨_, rfl, (by decide +kernel), rfl, (bw_of 121 (by decide +kernel) rfl)⟩, List.forall_mem_cons.mpr ⟨⟨_, rfl, (by decide +kernel), rfl, (bw_of 122 (by decide +kernel) rfl)⟩, List.forall_mem_cons.mpr ⟨⟨_, rfl, (by decide +kernel), rfl, (bw_of 123 (by decide +kernel) rfl)⟩, List.forall_mem_cons.mpr ⟨⟨_, rfl, (by decide +kernel), rfl, (bw_of 58 (by decide +kernel) rfl)⟩, List.forall_mem_cons.mpr ⟨⟨_, rfl, (by decide +kernel), rfl, (bw_of 97 (by decide +kernel) rfl)⟩, List.forall_mem_cons.mpr ⟨⟨_, rfl, (by decide +kernel), rfl, (bw_of 47 (by decide +kernel) rfl)⟩, fun _ h => nomatch h⟩⟩⟩⟩⟩⟩⟩
theorem flk_ok (o : Nat) : ∀ q ∈ flk o, flG o q.1 q.2.1 q.2.2 := match o with
  | 0 => flk_ok0
  | 1 => flk_ok1
  | 2 => flk_ok2
  | 3 => flk_ok3
  | 4 => flk_ok4
  | _ + 5 => fun _ h => nomatch h
theorem llk_ok (o : Nat) : ∀ q ∈ llk o, Cond.constantLong (RO o) q.1 q.2 ∈ BW := fun _ h => nomatch h
theorem dlk_ok (o : Nat) : ∀ q ∈ dlk o, Cond.constantDouble (RO o) q.1 q.2 ∈ BW := fun _ h => nomatch h
set_option maxRecDepth 100000 in
theorem ilk_ok6 : ∀ q ∈ ilk 6, Cond.constant (RO 6) q.1 q.2 ∈ BW := List.forall_mem_cons.mpr ⟨(bw_of 136 (by decide +kernel) rfl), fun _ h => nomatch h⟩
theorem ilk_ok (o : Nat) : ∀ q ∈ ilk o, Cond.constant (RO o) q.1 q.2 ∈ BW := match o with
  | 0 => fun _ h => nomatch h
  | 1 => fun _ h => nomatch h
  | 2 => fun _ h => nomatch h
  | 3 => fun _ h => nomatch h
  | 4 => fun _ h => nomatch h
  | 5 => fun _ h => nomatch h
  | 6 => ilk_ok6
  | _ + 7 => fun _ h => nomatch h
set_option maxRecDepth 100000 in
theorem nlk_ok0 {o x : Nat} (h : (x, 0) ∈ nlk o) : Cond.methodLink (RO o) x arraycopyName ∈ BW ∧ Cond.native arraycopyName ∈ BW ∧ Cond.static arraycopyName ∈ BW ∧ Cond.initialized "java/lang/System" ∈ BW := match o, h with
  | 0, h => by simp [nlk] at h
  | 1, h => by
    obtain rfl : x = 21 := by simpa [nlk] using h
    exact ⟨(bw_of 309 (by decide +kernel) rfl), (bw_of 311 (by decide +kernel) rfl), (bw_of 310 (by decide +kernel) rfl), (bw_of 15 (by decide +kernel) rfl)⟩
  | 2, h => by simp [nlk] at h
  | _ + 3, h => nomatch h
set_option maxRecDepth 100000 in
theorem nlk_ok1 {o x : Nat} (h : (x, 1) ∈ nlk o) : Cond.methodLink (RO o) x ⟨"java/lang/Double", "doubleToRawLongBits", "(D)J"⟩ ∈ BW ∧ Cond.native ⟨"java/lang/Double", "doubleToRawLongBits", "(D)J"⟩ ∈ BW ∧ Cond.static ⟨"java/lang/Double", "doubleToRawLongBits", "(D)J"⟩ ∈ BW ∧ Cond.initialized "java/lang/Double" ∈ BW := match o, h with
  | 0, h => by simp [nlk] at h
  | 1, h => by simp [nlk] at h
  | 2, h => by simp [nlk] at h
  | _ + 3, h => nomatch h
set_option maxRecDepth 100000 in
theorem nlk_ok2 {o x : Nat} (h : (x, 2) ∈ nlk o) : Cond.methodLink (RO o) x Lib.Math.max.name ∈ BW ∧ Cond.static Lib.Math.max.name ∈ BW ∧ Cond.initialized "java/lang/Math" ∈ BW ∧ Cond.code Lib.Math.max.name Lib.Math.max.code 2 (some .int) ∈ BW := match o, h with
  | 0, h => by simp [nlk] at h
  | 1, h => by simp [nlk] at h
  | 2, h => by
    obtain rfl : x = 79 := by simpa [nlk] using h
    exact ⟨(bw_of 333 (by decide +kernel) rfl), (bw_of 334 (by decide +kernel) rfl), (bw_of 16 (by decide +kernel) rfl), (bw_of 335 (by decide +kernel) rfl)⟩
  | _ + 3, h => nomatch h
set_option maxRecDepth 100000 in
theorem nlk_ok3 {o x : Nat} (h : (x, 3) ∈ nlk o) : Cond.methodLink (RO o) x Lib.Math.min.name ∈ BW ∧ Cond.static Lib.Math.min.name ∈ BW ∧ Cond.initialized "java/lang/Math" ∈ BW ∧ Cond.code Lib.Math.min.name Lib.Math.min.code 2 (some .int) ∈ BW := match o, h with
  | 0, h => by
    obtain rfl : x = 33 := by simpa [nlk] using h
    exact ⟨(bw_of 312 (by decide +kernel) rfl), (bw_of 313 (by decide +kernel) rfl), (bw_of 16 (by decide +kernel) rfl), (bw_of 314 (by decide +kernel) rfl)⟩
  | 1, h => by simp [nlk] at h
  | 2, h => by
    obtain rfl : x = 134 := by simpa [nlk] using h
    exact ⟨(bw_of 475 (by decide +kernel) rfl), (bw_of 313 (by decide +kernel) rfl), (bw_of 16 (by decide +kernel) rfl), (bw_of 314 (by decide +kernel) rfl)⟩
  | _ + 3, h => nomatch h
set_option maxRecDepth 100000 in
theorem clG0 : clG (RX0, TX0, 3) := ⟨bw_all _ [98, 100, 102] (by decide +kernel) (by decide +kernel), tyX0, tyX0_ok, nmX0⟩
set_option maxRecDepth 100000 in
theorem clG1 : clG (RX1, TX1, 1) := ⟨bw_all _ [38] (by decide +kernel) (by decide +kernel), tyX1, tyX1_ok, nmX1⟩
set_option maxRecDepth 100000 in
theorem clG2 : clG (RX2, TX2, 12) := ⟨bw_all _ [60, 62, 64, 66, 68, 70, 72, 74, 76, 78, 80, 82] (by decide +kernel) (by decide +kernel), tyX2, tyX2_ok, nmX2⟩
set_option maxRecDepth 100000 in
theorem clG3 : clG (RX3, TX3, 2) := ⟨bw_all _ [115, 117] (by decide +kernel) (by decide +kernel), tyX3, tyX3_ok, nmX3⟩
set_option maxRecDepth 100000 in
theorem clG4 : clG (RX4, TX4, 4) := ⟨bw_all _ [124, 126, 128, 130] (by decide +kernel) (by decide +kernel), tyX4, tyX4_ok, nmX4⟩
theorem clG_ok {ci : Nat} {q : vw_C} (h : vwCl[ci]? = some q) : clG q := match ci, h with
  | 0, h => by cases h; exact clG0
  | 1, h => by cases h; exact clG1
  | 2, h => by cases h; exact clG2
  | 3, h => by cases h; exact clG3
  | 4, h => by cases h; exact clG4
  | _ + 5, h => by simp [vwCl] at h
set_option maxRecDepth 100000 in
theorem ipl_ok : ∀ z ∈ ipl, (vwCl[z.1]?.map fun q => decide ((q.2.1 z.2).2.2.2 = false) && decide ((q.2.1 z.2).2.2.1 = "I")) = some true := by decide +kernel
set_option maxRecDepth 100000 in
theorem mi_X0_slotAt : miG MX0_slotAt := ⟨(by decide +kernel), (bw_of 300 rfl rfl), (bw_of 7 (by decide +kernel) rfl), ⟨(by decide +kernel), (by decide +kernel), (by decide +kernel)⟩, rfl⟩
set_option maxRecDepth 100000 in
theorem mi_X1_copyFrom : miG MX1_copyFrom := ⟨(by decide +kernel), (bw_of 308 rfl rfl), (bw_of 6 (by decide +kernel) rfl), ⟨(by decide +kernel), (by decide +kernel), (by decide +kernel)⟩, rfl⟩
set_option maxRecDepth 100000 in
theorem mi_X2_copyFrom : miG MX2_copyFrom := ⟨(by decide +kernel), (bw_of 304 rfl rfl), (bw_of 5 (by decide +kernel) rfl), ⟨(by decide +kernel), (by decide +kernel), (by decide +kernel)⟩, rfl⟩
set_option maxRecDepth 100000 in
theorem mi_X0_save : miG MX0_save := ⟨(by decide +kernel), (bw_of 296 rfl rfl), (bw_of 7 (by decide +kernel) rfl), ⟨(by decide +kernel), (by decide +kernel), (by decide +kernel)⟩, rfl⟩
set_option maxRecDepth 100000 in
theorem mi_X1_at : miG MX1_at := ⟨(by decide +kernel), (bw_of 251 rfl rfl), (bw_of 6 (by decide +kernel) rfl), ⟨(by decide +kernel), (by decide +kernel), (by decide +kernel)⟩, rfl⟩
set_option maxRecDepth 100000 in
theorem mi_X1_put : miG MX1_put := ⟨(by decide +kernel), (bw_of 45 rfl rfl), (bw_of 6 (by decide +kernel) rfl), ⟨(by decide +kernel), (by decide +kernel), (by decide +kernel)⟩, rfl⟩
set_option maxRecDepth 100000 in
theorem mi_X1_raise : miG MX1_raise := ⟨(by decide +kernel), (bw_of 322 rfl rfl), (bw_of 6 (by decide +kernel) rfl), ⟨(by decide +kernel), (by decide +kernel), (by decide +kernel)⟩, rfl⟩
set_option maxRecDepth 100000 in
theorem mi_X1_sum : miG MX1_sum := ⟨(by decide +kernel), (bw_of 540 rfl rfl), (bw_of 6 (by decide +kernel) rfl), ⟨(by decide +kernel), (by decide +kernel), (by decide +kernel)⟩, rfl⟩
set_option maxRecDepth 100000 in
theorem mi_X2_isWaiting : miG MX2_isWaiting := ⟨(by decide +kernel), (bw_of 263 rfl rfl), (bw_of 5 (by decide +kernel) rfl), ⟨(by decide +kernel), (by decide +kernel), (by decide +kernel)⟩, rfl⟩
set_option maxRecDepth 100000 in
theorem mi_X2_queueLength : miG MX2_queueLength := ⟨(by decide +kernel), (bw_of 339 rfl rfl), (bw_of 5 (by decide +kernel) rfl), ⟨(by decide +kernel), (by decide +kernel), (by decide +kernel)⟩, rfl⟩
set_option maxRecDepth 100000 in
theorem mi_X2_handAt : miG MX2_handAt := ⟨(by decide +kernel), (bw_of 347 rfl rfl), (bw_of 5 (by decide +kernel) rfl), ⟨(by decide +kernel), (by decide +kernel), (by decide +kernel)⟩, rfl⟩
set_option maxRecDepth 100000 in
theorem mi_X4_cell : miG MX4_cell := ⟨(by decide +kernel), (bw_of 247 rfl rfl), (bw_of 4 (by decide +kernel) rfl), ⟨(by decide +kernel), (by decide +kernel), (by decide +kernel)⟩, rfl⟩
set_option maxRecDepth 100000 in
theorem mi_X2_placeForHolder : miG MX2_placeForHolder := ⟨(by decide +kernel), (bw_of 332 rfl rfl), (bw_of 5 (by decide +kernel) rfl), ⟨(by decide +kernel), (by decide +kernel), (by decide +kernel)⟩, rfl⟩
set_option maxRecDepth 100000 in
theorem mi_X2_enqueue : miG MX2_enqueue := ⟨(by decide +kernel), (bw_of 328 rfl rfl), (bw_of 5 (by decide +kernel) rfl), ⟨(by decide +kernel), (by decide +kernel), (by decide +kernel)⟩, rfl⟩
set_option maxRecDepth 100000 in
theorem mi_X2_dequeue : miG MX2_dequeue := ⟨(by decide +kernel), (bw_of 359 rfl rfl), (bw_of 5 (by decide +kernel) rfl), ⟨(by decide +kernel), (by decide +kernel), (by decide +kernel)⟩, rfl⟩
set_option maxRecDepth 100000 in
theorem mi_X2_clashes : miG MX2_clashes := ⟨(by decide +kernel), (bw_of 351 rfl rfl), (bw_of 5 (by decide +kernel) rfl), ⟨(by decide +kernel), (by decide +kernel), (by decide +kernel)⟩, rfl⟩
