set_option maxRecDepth 100000 in
theorem mi_X4_greatestValue : miG MX4_greatestValue := ⟨(by decide +kernel), (bw_of 454 rfl rfl), (bw_of 4 (by decide +kernel) rfl), ⟨(by decide +kernel), (by decide +kernel), (by decide +kernel)⟩, rfl⟩
set_option maxRecDepth 100000 in
theorem mi_X4_set : miG MX4_set := ⟨(by decide +kernel), (bw_of 444 rfl rfl), (bw_of 4 (by decide +kernel) rfl), ⟨(by decide +kernel), (by decide +kernel), (by decide +kernel)⟩, rfl⟩
set_option maxRecDepth 100000 in
theorem mi_X4_lock : miG MX4_lock := ⟨(by decide +kernel), (bw_of 486 rfl rfl), (bw_of 4 (by decide +kernel) rfl), ⟨(by decide +kernel), (by decide +kernel), (by decide +kernel)⟩, rfl⟩
set_option maxRecDepth 100000 in
theorem mi_X4_hand : miG MX4_hand := ⟨(by decide +kernel), (bw_of 149 rfl rfl), (bw_of 4 (by decide +kernel) rfl), ⟨(by decide +kernel), (by decide +kernel), (by decide +kernel)⟩, rfl⟩
set_option maxRecDepth 100000 in
theorem mi_X4_row : miG MX4_row := ⟨(by decide +kernel), (bw_of 496 rfl rfl), (bw_of 4 (by decide +kernel) rfl), ⟨(by decide +kernel), (by decide +kernel), (by decide +kernel)⟩, rfl⟩
set_option maxRecDepth 100000 in
theorem mi_X4_request : miG MX4_request := ⟨(by decide +kernel), (bw_of 510 rfl rfl), (bw_of 4 (by decide +kernel) rfl), ⟨(by decide +kernel), (by decide +kernel), (by decide +kernel)⟩, rfl⟩
set_option maxRecDepth 100000 in
theorem mi_X4_numberOf : miG MX4_numberOf := ⟨(by decide +kernel), (bw_of 524 rfl rfl), (bw_of 4 (by decide +kernel) rfl), ⟨(by decide +kernel), (by decide +kernel), (by decide +kernel)⟩, rfl⟩
set_option maxRecDepth 100000 in
theorem mi_X4_count : miG MX4_count := ⟨(by decide +kernel), (bw_of 519 rfl rfl), (bw_of 4 (by decide +kernel) rfl), ⟨(by decide +kernel), (by decide +kernel), (by decide +kernel)⟩, rfl⟩
set_option maxRecDepth 100000 in
theorem mi_X4_takers : miG MX4_takers := ⟨(by decide +kernel), (bw_of 421 rfl rfl), (bw_of 4 (by decide +kernel) rfl), ⟨(by decide +kernel), (by decide +kernel), (by decide +kernel)⟩, rfl⟩
set_option maxRecDepth 100000 in
theorem mi_X4_waitsFor : miG MX4_waitsFor := ⟨(by decide +kernel), (bw_of 491 rfl rfl), (bw_of 4 (by decide +kernel) rfl), ⟨(by decide +kernel), (by decide +kernel), (by decide +kernel)⟩, rfl⟩
set_option maxRecDepth 100000 in
theorem mi_L_cell : miG ML_cell := ⟨(by decide +kernel), (bw_of 135 rfl rfl), (bw_of 3 (by decide +kernel) rfl), ⟨(by decide +kernel), (by decide +kernel), (by decide +kernel)⟩, rfl⟩
set_option maxRecDepth 100000 in
theorem mi_L_at : miG ML_at := ⟨(by decide +kernel), (bw_of 142 rfl rfl), (bw_of 3 (by decide +kernel) rfl), ⟨(by decide +kernel), (by decide +kernel), (by decide +kernel)⟩, rfl⟩
set_option maxRecDepth 100000 in
theorem mi_L_rowOf : miG ML_rowOf := ⟨(by decide +kernel), (bw_of 145 rfl rfl), (bw_of 3 (by decide +kernel) rfl), ⟨(by decide +kernel), (by decide +kernel), (by decide +kernel)⟩, rfl⟩
set_option maxRecDepth 100000 in
theorem mi_L_clashes : miG ML_clashes := ⟨(by decide +kernel), (bw_of 383 rfl rfl), (bw_of 3 (by decide +kernel) rfl), ⟨(by decide +kernel), (by decide +kernel), (by decide +kernel)⟩, rfl⟩
set_option maxRecDepth 100000 in
theorem mi_L_waits : miG ML_waits := ⟨(by decide +kernel), (bw_of 392 rfl rfl), (bw_of 3 (by decide +kernel) rfl), ⟨(by decide +kernel), (by decide +kernel), (by decide +kernel)⟩, rfl⟩
set_option maxRecDepth 100000 in
theorem mi_L_over : miG ML_over := ⟨(by decide +kernel), (bw_of 389 rfl rfl), (bw_of 3 (by decide +kernel) rfl), ⟨(by decide +kernel), (by decide +kernel), (by decide +kernel)⟩, rfl⟩
set_option maxRecDepth 100000 in
theorem mi_L_leave : miG ML_leave := ⟨(by decide +kernel), (bw_of 386 rfl rfl), (bw_of 3 (by decide +kernel) rfl), ⟨(by decide +kernel), (by decide +kernel), (by decide +kernel)⟩, rfl⟩
set_option maxRecDepth 100000 in
theorem mi_L_settle : miG ML_settle := ⟨(by decide +kernel), (bw_of 380 rfl rfl), (bw_of 3 (by decide +kernel) rfl), ⟨(by decide +kernel), (by decide +kernel), (by decide +kernel)⟩, rfl⟩
set_option maxRecDepth 100000 in
theorem mi_L_work : miG ML_work := ⟨(by decide +kernel), (bw_of 395 rfl rfl), (bw_of 3 (by decide +kernel) rfl), ⟨(by decide +kernel), (by decide +kernel), (by decide +kernel)⟩, rfl⟩
set_option maxRecDepth 100000 in
theorem mi_L_asks : miG ML_asks := ⟨(by decide +kernel), (bw_of 377 rfl rfl), (bw_of 3 (by decide +kernel) rfl), ⟨(by decide +kernel), (by decide +kernel), (by decide +kernel)⟩, rfl⟩
set_option maxRecDepth 100000 in
theorem mi_L_act : miG ML_act := ⟨(by decide +kernel), (bw_of 139 rfl rfl), (bw_of 3 (by decide +kernel) rfl), ⟨(by decide +kernel), (by decide +kernel), (by decide +kernel)⟩, rfl⟩
set_option maxRecDepth 100000 in
theorem mi_L_agree : miG ML_agree := ⟨(by decide +kernel), (bw_of 482 rfl rfl), (bw_of 3 (by decide +kernel) rfl), ⟨(by decide +kernel), (by decide +kernel), (by decide +kernel)⟩, rfl⟩
set_option maxRecDepth 100000 in
theorem lk_0_29 : lkG 0 29 1 MX2_copyFrom := ⟨(bw_of 301 (by decide +kernel) rfl), (bw_of 302 (by decide +kernel) rfl), (bw_of 303 (by decide +kernel) rfl), rfl⟩
set_option maxRecDepth 100000 in
theorem lk_0_25 : lkG 0 25 1 MX0_slotAt := ⟨(bw_of 297 (by decide +kernel) rfl), (bw_of 299 (by decide +kernel) rfl), (bw_of 1 (by decide +kernel) rfl), rfl⟩
set_option maxRecDepth 100000 in
theorem clk_ok0 : ∀ q ∈ clk 0, lkG 0 q.1 q.2.1 q.2.2 ∧ miG q.2.2 := List.forall_mem_cons.mpr ⟨⟨lk_0_25, mi_X0_slotAt⟩, List.forall_mem_cons.mpr ⟨⟨lk_0_29, mi_X2_copyFrom⟩, fun _ h => nomatch h⟩⟩
set_option maxRecDepth 100000 in
theorem lk_1_17 : lkG 1 17 1 MX1_put := ⟨(bw_of 324 (by decide +kernel) rfl), (bw_of 43 (by decide +kernel) rfl), (bw_of 44 (by decide +kernel) rfl), rfl⟩
set_option maxRecDepth 100000 in
theorem lk_1_13 : lkG 1 13 1 MX1_at := ⟨(bw_of 323 (by decide +kernel) rfl), (bw_of 249 (by decide +kernel) rfl), (bw_of 250 (by decide +kernel) rfl), rfl⟩
set_option maxRecDepth 100000 in
theorem clk_ok1 : ∀ q ∈ clk 1, lkG 1 q.1 q.2.1 q.2.2 ∧ miG q.2.2 := List.forall_mem_cons.mpr ⟨⟨lk_1_13, mi_X1_at⟩, List.forall_mem_cons.mpr ⟨⟨lk_1_17, mi_X1_put⟩, fun _ h => nomatch h⟩⟩
set_option maxRecDepth 100000 in
theorem lk_2_162 : lkG 2 162 1 MX2_heldRows := ⟨(bw_of 541 (by decide +kernel) rfl), (bw_of 542 (by decide +kernel) rfl), (bw_of 543 (by decide +kernel) rfl), rfl⟩
set_option maxRecDepth 100000 in
theorem lk_2_159 : lkG 2 159 1 MX1_sum := ⟨(bw_of 537 (by decide +kernel) rfl), (bw_of 538 (by decide +kernel) rfl), (bw_of 539 (by decide +kernel) rfl), rfl⟩
set_option maxRecDepth 100000 in
theorem lk_2_156 : lkG 2 156 1 MX2_waitingCount := ⟨(bw_of 533 (by decide +kernel) rfl), (bw_of 534 (by decide +kernel) rfl), (bw_of 535 (by decide +kernel) rfl), rfl⟩
set_option maxRecDepth 100000 in
theorem lk_2_152 : lkG 2 152 1 MX2_lockCount := ⟨(bw_of 529 (by decide +kernel) rfl), (bw_of 530 (by decide +kernel) rfl), (bw_of 531 (by decide +kernel) rfl), rfl⟩
set_option maxRecDepth 100000 in
theorem lk_2_149 : lkG 2 149 1 MX2_holders := ⟨(bw_of 503 (by decide +kernel) rfl), (bw_of 504 (by decide +kernel) rfl), (bw_of 505 (by decide +kernel) rfl), rfl⟩
set_option maxRecDepth 100000 in
theorem lk_2_146 : lkG 2 146 1 MX2_locksOf := ⟨(bw_of 241 (by decide +kernel) rfl), (bw_of 242 (by decide +kernel) rfl), (bw_of 243 (by decide +kernel) rfl), rfl⟩
set_option maxRecDepth 100000 in
theorem lk_2_143 : lkG 2 143 1 MX2_burn := ⟨(bw_of 476 (by decide +kernel) rfl), (bw_of 477 (by decide +kernel) rfl), (bw_of 478 (by decide +kernel) rfl), rfl⟩
set_option maxRecDepth 100000 in
theorem lk_2_140 : lkG 2 140 1 MX2_heatAfter := ⟨(bw_of 471 (by decide +kernel) rfl), (bw_of 472 (by decide +kernel) rfl), (bw_of 473 (by decide +kernel) rfl), rfl⟩
set_option maxRecDepth 100000 in
theorem lk_2_137 : lkG 2 137 1 MX2_greatestMode := ⟨(bw_of 467 (by decide +kernel) rfl), (bw_of 468 (by decide +kernel) rfl), (bw_of 469 (by decide +kernel) rfl), rfl⟩
set_option maxRecDepth 100000 in
theorem lk_2_130 : lkG 2 130 1 MX2_canPassOver := ⟨(bw_of 426 (by decide +kernel) rfl), (bw_of 427 (by decide +kernel) rfl), (bw_of 428 (by decide +kernel) rfl), rfl⟩
