set_option maxRecDepth 100000 in
theorem lk_4_85 : lkG 4 85 1 MX2_stopWaiting := ⟨(bw_of 414 (by decide +kernel) rfl), (bw_of 415 (by decide +kernel) rfl), (bw_of 416 (by decide +kernel) rfl), rfl⟩
set_option maxRecDepth 100000 in
theorem lk_4_77 : lkG 4 77 1 MX2_letGo := ⟨(bw_of 405 (by decide +kernel) rfl), (bw_of 406 (by decide +kernel) rfl), (bw_of 407 (by decide +kernel) rfl), rfl⟩
set_option maxRecDepth 100000 in
theorem lk_4_71 : lkG 4 71 1 MX2_canLetGo := ⟨(bw_of 400 (by decide +kernel) rfl), (bw_of 401 (by decide +kernel) rfl), (bw_of 402 (by decide +kernel) rfl), rfl⟩
set_option maxRecDepth 100000 in
theorem lk_4_67 : lkG 4 67 1 MX2_takeAsking := ⟨(bw_of 315 (by decide +kernel) rfl), (bw_of 316 (by decide +kernel) rfl), (bw_of 317 (by decide +kernel) rfl), rfl⟩
set_option maxRecDepth 100000 in
theorem lk_4_63 : lkG 4 63 1 MX0_save := ⟨(bw_of 293 (by decide +kernel) rfl), (bw_of 294 (by decide +kernel) rfl), (bw_of 295 (by decide +kernel) rfl), rfl⟩
set_option maxRecDepth 100000 in
theorem lk_4_55 : lkG 4 55 1 MX2_isWaiting := ⟨(bw_of 276 (by decide +kernel) rfl), (bw_of 261 (by decide +kernel) rfl), (bw_of 262 (by decide +kernel) rfl), rfl⟩
set_option maxRecDepth 100000 in
theorem lk_4_47 : lkG 4 47 0 MX4_isMode := ⟨(bw_of 272 (by decide +kernel) rfl), (bw_of 273 (by decide +kernel) rfl)⟩
set_option maxRecDepth 100000 in
theorem lk_4_37 : lkG 4 37 0 MX4_isRow := ⟨(bw_of 268 (by decide +kernel) rfl), (bw_of 269 (by decide +kernel) rfl)⟩
set_option maxRecDepth 100000 in
theorem lk_4_33 : lkG 4 33 0 MX4_isHand := ⟨(bw_of 150 (by decide +kernel) rfl), (bw_of 151 (by decide +kernel) rfl)⟩
set_option maxRecDepth 100000 in
theorem clk_ok4 : ∀ q ∈ clk 4, lkG 4 q.1 q.2.1 q.2.2 ∧ miG q.2.2 := List.forall_mem_cons.mpr ⟨⟨lk_4_33, mi_X4_isHand⟩, List.forall_mem_cons.mpr ⟨⟨lk_4_37, mi_X4_isRow⟩, List.forall_mem_cons.mpr ⟨⟨lk_4_47, mi_X4_isMode⟩, List.forall_mem_cons.mpr ⟨⟨lk_4_55, mi_X2_isWaiting⟩, List.forall_mem_cons.mpr ⟨⟨lk_4_63, mi_X0_save⟩, List.forall_mem_cons.mpr ⟨⟨lk_4_67, mi_X2_takeAsking⟩, List.forall_mem_cons.mpr ⟨⟨lk_4_71, mi_X2_canLetGo⟩, List.forall_mem_cons.mpr ⟨⟨lk_4_77, mi_X2_letGo⟩, List.forall_mem_cons.mpr ⟨⟨lk_4_85, mi_X2_stopWaiting⟩, List.forall_mem_cons.mpr ⟨⟨lk_4_89, mi_X2_canPassOver⟩, List.forall_mem_cons.mpr ⟨⟨lk_4_95, mi_X2_passOver⟩, List.forall_mem_cons.mpr ⟨⟨lk_4_100, mi_X2_tick⟩, List.forall_mem_cons.mpr ⟨⟨lk_4_115, mi_X1_at⟩, List.forall_mem_cons.mpr ⟨⟨lk_4_120, mi_X1_put⟩, List.forall_mem_cons.mpr ⟨⟨lk_4_124, mi_X4_isSetting⟩, List.forall_mem_cons.mpr ⟨⟨lk_4_129, mi_X4_leastValue⟩, List.forall_mem_cons.mpr ⟨⟨lk_4_132, mi_X4_greatestValue⟩, List.forall_mem_cons.mpr ⟨⟨lk_4_181, mi_X4_cell⟩, List.forall_mem_cons.mpr ⟨⟨lk_4_186, mi_X2_handPart⟩, List.forall_mem_cons.mpr ⟨⟨lk_4_191, mi_X2_rowPart⟩, List.forall_mem_cons.mpr ⟨⟨lk_4_196, mi_X2_requestPart⟩, List.forall_mem_cons.mpr ⟨⟨lk_4_201, mi_X4_numberOf⟩, List.forall_mem_cons.mpr ⟨⟨lk_4_212, mi_X2_takersOf⟩, List.forall_mem_cons.mpr ⟨⟨lk_4_218, mi_X2_reach⟩, List.forall_mem_cons.mpr ⟨⟨lk_4_255, mi_X2_total⟩, fun _ h => nomatch h⟩⟩⟩⟩⟩⟩⟩⟩⟩⟩⟩⟩⟩⟩⟩⟩⟩⟩⟩⟩⟩⟩⟩⟩⟩
set_option maxRecDepth 100000 in
theorem lk_6_96 : lkG 6 96 0 ML_agree := ⟨(bw_of 480 (by decide +kernel) rfl), (bw_of 481 (by decide +kernel) rfl)⟩
set_option maxRecDepth 100000 in
theorem lk_6_92 : lkG 6 92 0 ML_act := ⟨(bw_of 137 (by decide +kernel) rfl), (bw_of 138 (by decide +kernel) rfl)⟩
set_option maxRecDepth 100000 in
theorem lk_6_89 : lkG 6 89 0 ML_cell := ⟨(bw_of 133 (by decide +kernel) rfl), (bw_of 134 (by decide +kernel) rfl)⟩
set_option maxRecDepth 100000 in
theorem lk_6_85 : lkG 6 85 1 MX4_count := ⟨(bw_of 516 (by decide +kernel) rfl), (bw_of 517 (by decide +kernel) rfl), (bw_of 518 (by decide +kernel) rfl), rfl⟩
set_option maxRecDepth 100000 in
theorem lk_6_82 : lkG 6 82 1 MX4_request := ⟨(bw_of 507 (by decide +kernel) rfl), (bw_of 508 (by decide +kernel) rfl), (bw_of 509 (by decide +kernel) rfl), rfl⟩
set_option maxRecDepth 100000 in
theorem lk_6_79 : lkG 6 79 1 MX4_row := ⟨(bw_of 493 (by decide +kernel) rfl), (bw_of 494 (by decide +kernel) rfl), (bw_of 495 (by decide +kernel) rfl), rfl⟩
set_option maxRecDepth 100000 in
theorem lk_6_76 : lkG 6 76 1 MX4_waitsFor := ⟨(bw_of 488 (by decide +kernel) rfl), (bw_of 489 (by decide +kernel) rfl), (bw_of 490 (by decide +kernel) rfl), rfl⟩
set_option maxRecDepth 100000 in
theorem lk_6_73 : lkG 6 73 1 MX4_lock := ⟨(bw_of 483 (by decide +kernel) rfl), (bw_of 484 (by decide +kernel) rfl), (bw_of 485 (by decide +kernel) rfl), rfl⟩
set_option maxRecDepth 100000 in
theorem lk_6_70 : lkG 6 70 1 MX4_pass := ⟨(bw_of 458 (by decide +kernel) rfl), (bw_of 459 (by decide +kernel) rfl), (bw_of 460 (by decide +kernel) rfl), rfl⟩
set_option maxRecDepth 100000 in
theorem lk_6_67 : lkG 6 67 1 MX4_set := ⟨(bw_of 441 (by decide +kernel) rfl), (bw_of 442 (by decide +kernel) rfl), (bw_of 443 (by decide +kernel) rfl), rfl⟩
set_option maxRecDepth 100000 in
theorem lk_6_64 : lkG 6 64 1 MX4_handOn := ⟨(bw_of 431 (by decide +kernel) rfl), (bw_of 432 (by decide +kernel) rfl), (bw_of 433 (by decide +kernel) rfl), rfl⟩
set_option maxRecDepth 100000 in
theorem lk_6_61 : lkG 6 61 1 MX4_takers := ⟨(bw_of 418 (by decide +kernel) rfl), (bw_of 419 (by decide +kernel) rfl), (bw_of 420 (by decide +kernel) rfl), rfl⟩
set_option maxRecDepth 100000 in
theorem lk_6_57 : lkG 6 57 1 MX4_giveUp := ⟨(bw_of 409 (by decide +kernel) rfl), (bw_of 410 (by decide +kernel) rfl), (bw_of 411 (by decide +kernel) rfl), rfl⟩
set_option maxRecDepth 100000 in
theorem lk_6_54 : lkG 6 54 1 MX4_release := ⟨(bw_of 396 (by decide +kernel) rfl), (bw_of 397 (by decide +kernel) rfl), (bw_of 398 (by decide +kernel) rfl), rfl⟩
set_option maxRecDepth 100000 in
theorem lk_6_50 : lkG 6 50 0 ML_asks := ⟨(bw_of 375 (by decide +kernel) rfl), (bw_of 376 (by decide +kernel) rfl)⟩
set_option maxRecDepth 100000 in
theorem lk_6_46 : lkG 6 46 1 MX4_ask := ⟨(bw_of 264 (by decide +kernel) rfl), (bw_of 265 (by decide +kernel) rfl), (bw_of 266 (by decide +kernel) rfl), rfl⟩
set_option maxRecDepth 100000 in
theorem lk_6_41 : lkG 6 41 1 MX4_hand := ⟨(bw_of 146 (by decide +kernel) rfl), (bw_of 147 (by decide +kernel) rfl), (bw_of 148 (by decide +kernel) rfl), rfl⟩
set_option maxRecDepth 100000 in
theorem lk_6_37 : lkG 6 37 0 ML_at := ⟨(bw_of 140 (by decide +kernel) rfl), (bw_of 141 (by decide +kernel) rfl)⟩
set_option maxRecDepth 100000 in
theorem lk_6_33 : lkG 6 33 0 ML_work := ⟨(bw_of 393 (by decide +kernel) rfl), (bw_of 394 (by decide +kernel) rfl)⟩
set_option maxRecDepth 100000 in
theorem lk_6_30 : lkG 6 30 0 ML_over := ⟨(bw_of 387 (by decide +kernel) rfl), (bw_of 388 (by decide +kernel) rfl)⟩
set_option maxRecDepth 100000 in
theorem lk_6_26 : lkG 6 26 0 ML_settle := ⟨(bw_of 378 (by decide +kernel) rfl), (bw_of 379 (by decide +kernel) rfl)⟩
set_option maxRecDepth 100000 in
theorem lk_6_22 : lkG 6 22 0 ML_leave := ⟨(bw_of 384 (by decide +kernel) rfl), (bw_of 385 (by decide +kernel) rfl)⟩
set_option maxRecDepth 100000 in
theorem lk_6_18 : lkG 6 18 0 ML_clashes := ⟨(bw_of 381 (by decide +kernel) rfl), (bw_of 382 (by decide +kernel) rfl)⟩
set_option maxRecDepth 100000 in
theorem lk_6_14 : lkG 6 14 0 ML_waits := ⟨(bw_of 390 (by decide +kernel) rfl), (bw_of 391 (by decide +kernel) rfl)⟩
set_option maxRecDepth 100000 in
theorem lk_6_8 : lkG 6 8 0 ML_rowOf := ⟨(bw_of 143 (by decide +kernel) rfl), (bw_of 144 (by decide +kernel) rfl)⟩
set_option maxRecDepth 100000 in
theorem clk_ok6 : ∀ q ∈ clk 6, lkG 6 q.1 q.2.1 q.2.2 ∧ miG q.2.2 := List.forall_mem_cons.mpr ⟨⟨lk_6_8, mi_L_rowOf⟩, List.forall_mem_cons.mpr ⟨⟨lk_6_14, mi_L_waits⟩, List.forall_mem_cons.mpr ⟨⟨lk_6_18, mi_L_clashes⟩, List.forall_mem_cons.mpr ⟨⟨lk_6_22, mi_L_leave⟩, List.forall_mem_cons.mpr ⟨⟨lk_6_26, mi_L_settle⟩, List.forall_mem_cons.mpr ⟨⟨lk_6_30, mi_L_over⟩, List.forall_mem_cons.mpr ⟨⟨lk_6_33, mi_L_work⟩, List.forall_mem_cons.mpr ⟨⟨lk_6_37, mi_L_at⟩, List.forall_mem_cons.mpr ⟨⟨lk_6_41, mi_X4_hand⟩, List.forall_mem_cons.mpr ⟨⟨lk_6_46, mi_X4_ask⟩, List.forall_mem_cons.mpr ⟨⟨lk_6_50, mi_L_asks⟩, List.forall_mem_cons.mpr ⟨⟨lk_6_54, mi_X4_release⟩, List.forall_mem_cons.mpr ⟨⟨lk_6_57, mi_X4_giveUp⟩, List.forall_mem_cons.mpr ⟨⟨lk_6_61, mi_X4_takers⟩, List.forall_mem_cons.mpr ⟨⟨lk_6_64, mi_X4_handOn⟩, List.forall_mem_cons.mpr ⟨⟨lk_6_67, mi_X4_set⟩, List.forall_mem_cons.mpr ⟨⟨lk_6_70, mi_X4_pass⟩, List.forall_mem_cons.mpr ⟨⟨lk_6_73, mi_X4_lock⟩, List.forall_mem_cons.mpr ⟨⟨lk_6_76, mi_X4_waitsFor⟩, List.forall_mem_cons.mpr ⟨⟨lk_6_79, mi_X4_row⟩, List.forall_mem_cons.mpr ⟨⟨lk_6_82, mi_X4_request⟩, List.forall_mem_cons.mpr ⟨⟨lk_6_85, mi_X4_count⟩, List.forall_mem_cons.mpr ⟨⟨lk_6_89, mi_L_cell⟩, List.forall_mem_cons.mpr ⟨⟨lk_6_92, mi_L_act⟩, List.forall_mem_cons.mpr ⟨⟨lk_6_96, mi_L_agree⟩, fun _ h => nomatch h⟩⟩⟩⟩⟩⟩⟩⟩⟩⟩⟩⟩⟩⟩⟩⟩⟩⟩⟩⟩⟩⟩⟩⟩⟩
theorem clk_ok (o : Nat) : ∀ q ∈ clk o, lkG o q.1 q.2.1 q.2.2 ∧ miG q.2.2 := match o with
  | 0 => clk_ok0
  | 1 => clk_ok1
  | 2 => clk_ok2
  | 3 => fun _ h => nomatch h
  | 4 => clk_ok4
  | 5 => fun _ h => nomatch h
  | 6 => clk_ok6
  | _ + 7 => fun _ h => nomatch h
theorem wok : WOK := ⟨flk_ok, llk_ok, dlk_ok, fun _ _ h => nlk_ok0 h, fun _ _ h => nlk_ok1 h, fun _ _ h => nlk_ok2 h, fun _ _ h => nlk_ok3 h, fun _ _ h => clG_ok h, ipl_ok, ilk_ok, clk_ok⟩
