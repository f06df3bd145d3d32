set_option maxRecDepth 100000 in
theorem lk_2_127 : lkG 2 127 1 MX2_canLetGo := ⟨(bw_of 430 (by decide +kernel) rfl), (bw_of 401 (by decide +kernel) rfl), (bw_of 402 (by decide +kernel) rfl), rfl⟩
set_option maxRecDepth 100000 in
theorem lk_2_124 : lkG 2 124 1 MX2_strip := ⟨(bw_of 371 (by decide +kernel) rfl), (bw_of 372 (by decide +kernel) rfl), (bw_of 373 (by decide +kernel) rfl), rfl⟩
set_option maxRecDepth 100000 in
theorem lk_2_121 : lkG 2 121 1 MX2_loserFor := ⟨(bw_of 360 (by decide +kernel) rfl), (bw_of 361 (by decide +kernel) rfl), (bw_of 362 (by decide +kernel) rfl), rfl⟩
set_option maxRecDepth 100000 in
theorem lk_2_118 : lkG 2 118 1 MX2_settle := ⟨(bw_of 340 (by decide +kernel) rfl), (bw_of 341 (by decide +kernel) rfl), (bw_of 342 (by decide +kernel) rfl), rfl⟩
set_option maxRecDepth 100000 in
theorem lk_2_114 : lkG 2 114 1 MX2_enqueue := ⟨(bw_of 325 (by decide +kernel) rfl), (bw_of 326 (by decide +kernel) rfl), (bw_of 327 (by decide +kernel) rfl), rfl⟩
set_option maxRecDepth 100000 in
theorem lk_2_111 : lkG 2 111 1 MX2_work := ⟨(bw_of 252 (by decide +kernel) rfl), (bw_of 253 (by decide +kernel) rfl), (bw_of 254 (by decide +kernel) rfl), rfl⟩
set_option maxRecDepth 100000 in
theorem lk_2_108 : lkG 2 108 1 MX2_reach := ⟨(bw_of 364 (by decide +kernel) rfl), (bw_of 365 (by decide +kernel) rfl), (bw_of 366 (by decide +kernel) rfl), rfl⟩
set_option maxRecDepth 100000 in
theorem lk_2_104 : lkG 2 104 2 MX4_has := ⟨⟨"HotPanLocks", nw_of 368 (by decide +kernel) rfl⟩, (bw_of 369 (by decide +kernel) rfl)⟩
set_option maxRecDepth 100000 in
theorem lk_2_101 : lkG 2 101 1 MX2_direct := ⟨(bw_of 256 (by decide +kernel) rfl), (bw_of 257 (by decide +kernel) rfl), (bw_of 258 (by decide +kernel) rfl), rfl⟩
set_option maxRecDepth 100000 in
theorem lk_2_97 : lkG 2 97 1 MX2_isWaiting := ⟨(bw_of 260 (by decide +kernel) rfl), (bw_of 261 (by decide +kernel) rfl), (bw_of 262 (by decide +kernel) rfl), rfl⟩
set_option maxRecDepth 100000 in
theorem lk_2_94 : lkG 2 94 1 MX2_grant := ⟨(bw_of 352 (by decide +kernel) rfl), (bw_of 353 (by decide +kernel) rfl), (bw_of 354 (by decide +kernel) rfl), rfl⟩
set_option maxRecDepth 100000 in
theorem lk_2_90 : lkG 2 90 1 MX2_clashes := ⟨(bw_of 348 (by decide +kernel) rfl), (bw_of 349 (by decide +kernel) rfl), (bw_of 350 (by decide +kernel) rfl), rfl⟩
set_option maxRecDepth 100000 in
theorem lk_2_87 : lkG 2 87 1 MX2_handAt := ⟨(bw_of 344 (by decide +kernel) rfl), (bw_of 345 (by decide +kernel) rfl), (bw_of 346 (by decide +kernel) rfl), rfl⟩
set_option maxRecDepth 100000 in
theorem lk_2_84 : lkG 2 84 1 MX2_dequeue := ⟨(bw_of 356 (by decide +kernel) rfl), (bw_of 357 (by decide +kernel) rfl), (bw_of 358 (by decide +kernel) rfl), rfl⟩
set_option maxRecDepth 100000 in
theorem lk_2_76 : lkG 2 76 1 MX1_raise := ⟨(bw_of 319 (by decide +kernel) rfl), (bw_of 320 (by decide +kernel) rfl), (bw_of 321 (by decide +kernel) rfl), rfl⟩
set_option maxRecDepth 100000 in
theorem lk_2_73 : lkG 2 73 1 MX2_queueLength := ⟨(bw_of 336 (by decide +kernel) rfl), (bw_of 337 (by decide +kernel) rfl), (bw_of 338 (by decide +kernel) rfl), rfl⟩
set_option maxRecDepth 100000 in
theorem lk_2_70 : lkG 2 70 1 MX2_placeForHolder := ⟨(bw_of 329 (by decide +kernel) rfl), (bw_of 330 (by decide +kernel) rfl), (bw_of 331 (by decide +kernel) rfl), rfl⟩
set_option maxRecDepth 100000 in
theorem lk_2_66 : lkG 2 66 2 MX4_cell := ⟨⟨"HotPanLocks", nw_of 245 (by decide +kernel) rfl⟩, (bw_of 246 (by decide +kernel) rfl)⟩
set_option maxRecDepth 100000 in
theorem lk_2_62 : lkG 2 62 1 MX1_at := ⟨(bw_of 248 (by decide +kernel) rfl), (bw_of 249 (by decide +kernel) rfl), (bw_of 250 (by decide +kernel) rfl), rfl⟩
set_option maxRecDepth 100000 in
theorem lk_2_58 : lkG 2 58 1 MX1_copyFrom := ⟨(bw_of 305 (by decide +kernel) rfl), (bw_of 306 (by decide +kernel) rfl), (bw_of 307 (by decide +kernel) rfl), rfl⟩
set_option maxRecDepth 100000 in
theorem lk_2_54 : lkG 2 54 1 MX1_put := ⟨(bw_of 42 (by decide +kernel) rfl), (bw_of 43 (by decide +kernel) rfl), (bw_of 44 (by decide +kernel) rfl), rfl⟩
set_option maxRecDepth 100000 in
theorem clk_ok2 : ∀ q ∈ clk 2, lkG 2 q.1 q.2.1 q.2.2 ∧ miG q.2.2 := List.forall_mem_cons.mpr ⟨⟨lk_2_54, mi_X1_put⟩, List.forall_mem_cons.mpr ⟨⟨lk_2_58, mi_X1_copyFrom⟩, List.forall_mem_cons.mpr ⟨⟨lk_2_62, mi_X1_at⟩, List.forall_mem_cons.mpr ⟨⟨lk_2_66, mi_X4_cell⟩, List.forall_mem_cons.mpr ⟨⟨lk_2_70, mi_X2_placeForHolder⟩, List.forall_mem_cons.mpr ⟨⟨lk_2_73, mi_X2_queueLength⟩, List.forall_mem_cons.mpr ⟨⟨lk_2_76, mi_X1_raise⟩, List.forall_mem_cons.mpr ⟨⟨lk_2_84, mi_X2_dequeue⟩, List.forall_mem_cons.mpr ⟨⟨lk_2_87, mi_X2_handAt⟩, List.forall_mem_cons.mpr ⟨⟨lk_2_90, mi_X2_clashes⟩, List.forall_mem_cons.mpr ⟨⟨lk_2_94, mi_X2_grant⟩, List.forall_mem_cons.mpr ⟨⟨lk_2_97, mi_X2_isWaiting⟩, List.forall_mem_cons.mpr ⟨⟨lk_2_101, mi_X2_direct⟩, List.forall_mem_cons.mpr ⟨⟨lk_2_104, mi_X4_has⟩, List.forall_mem_cons.mpr ⟨⟨lk_2_108, mi_X2_reach⟩, List.forall_mem_cons.mpr ⟨⟨lk_2_111, mi_X2_work⟩, List.forall_mem_cons.mpr ⟨⟨lk_2_114, mi_X2_enqueue⟩, List.forall_mem_cons.mpr ⟨⟨lk_2_118, mi_X2_settle⟩, List.forall_mem_cons.mpr ⟨⟨lk_2_121, mi_X2_loserFor⟩, List.forall_mem_cons.mpr ⟨⟨lk_2_124, mi_X2_strip⟩, List.forall_mem_cons.mpr ⟨⟨lk_2_127, mi_X2_canLetGo⟩, List.forall_mem_cons.mpr ⟨⟨lk_2_130, mi_X2_canPassOver⟩, List.forall_mem_cons.mpr ⟨⟨lk_2_137, mi_X2_greatestMode⟩, List.forall_mem_cons.mpr ⟨⟨lk_2_140, mi_X2_heatAfter⟩, List.forall_mem_cons.mpr ⟨⟨lk_2_143, mi_X2_burn⟩, List.forall_mem_cons.mpr ⟨⟨lk_2_146, mi_X2_locksOf⟩, List.forall_mem_cons.mpr ⟨⟨lk_2_149, mi_X2_holders⟩, List.forall_mem_cons.mpr ⟨⟨lk_2_152, mi_X2_lockCount⟩, List.forall_mem_cons.mpr ⟨⟨lk_2_156, mi_X2_waitingCount⟩, List.forall_mem_cons.mpr ⟨⟨lk_2_159, mi_X1_sum⟩, List.forall_mem_cons.mpr ⟨⟨lk_2_162, mi_X2_heldRows⟩, fun _ h => nomatch h⟩⟩⟩⟩⟩⟩⟩⟩⟩⟩⟩⟩⟩⟩⟩⟩⟩⟩⟩⟩⟩⟩⟩⟩⟩⟩⟩⟩⟩⟩⟩
set_option maxRecDepth 100000 in
theorem lk_4_255 : lkG 4 255 1 MX2_total := ⟨(bw_of 525 (by decide +kernel) rfl), (bw_of 526 (by decide +kernel) rfl), (bw_of 527 (by decide +kernel) rfl), rfl⟩
set_option maxRecDepth 100000 in
theorem lk_4_218 : lkG 4 218 1 MX2_reach := ⟨(bw_of 492 (by decide +kernel) rfl), (bw_of 365 (by decide +kernel) rfl), (bw_of 366 (by decide +kernel) rfl), rfl⟩
set_option maxRecDepth 100000 in
theorem lk_4_212 : lkG 4 212 1 MX2_takersOf := ⟨(bw_of 422 (by decide +kernel) rfl), (bw_of 423 (by decide +kernel) rfl), (bw_of 424 (by decide +kernel) rfl), rfl⟩
set_option maxRecDepth 100000 in
theorem lk_4_201 : lkG 4 201 1 MX4_numberOf := ⟨(bw_of 521 (by decide +kernel) rfl), (bw_of 523 (by decide +kernel) rfl), (bw_of 2 (by decide +kernel) rfl), rfl⟩
set_option maxRecDepth 100000 in
theorem lk_4_196 : lkG 4 196 1 MX2_requestPart := ⟨(bw_of 512 (by decide +kernel) rfl), (bw_of 513 (by decide +kernel) rfl), (bw_of 514 (by decide +kernel) rfl), rfl⟩
set_option maxRecDepth 100000 in
theorem lk_4_191 : lkG 4 191 1 MX2_rowPart := ⟨(bw_of 499 (by decide +kernel) rfl), (bw_of 500 (by decide +kernel) rfl), (bw_of 501 (by decide +kernel) rfl), rfl⟩
set_option maxRecDepth 100000 in
theorem lk_4_186 : lkG 4 186 1 MX2_handPart := ⟨(bw_of 237 (by decide +kernel) rfl), (bw_of 238 (by decide +kernel) rfl), (bw_of 239 (by decide +kernel) rfl), rfl⟩
set_option maxRecDepth 100000 in
theorem lk_4_181 : lkG 4 181 0 MX4_cell := ⟨(bw_of 487 (by decide +kernel) rfl), (bw_of 246 (by decide +kernel) rfl)⟩
set_option maxRecDepth 100000 in
theorem lk_4_132 : lkG 4 132 0 MX4_greatestValue := ⟨(bw_of 452 (by decide +kernel) rfl), (bw_of 453 (by decide +kernel) rfl)⟩
set_option maxRecDepth 100000 in
theorem lk_4_129 : lkG 4 129 0 MX4_leastValue := ⟨(bw_of 449 (by decide +kernel) rfl), (bw_of 450 (by decide +kernel) rfl)⟩
set_option maxRecDepth 100000 in
theorem lk_4_124 : lkG 4 124 0 MX4_isSetting := ⟨(bw_of 445 (by decide +kernel) rfl), (bw_of 446 (by decide +kernel) rfl)⟩
set_option maxRecDepth 100000 in
theorem lk_4_120 : lkG 4 120 1 MX1_put := ⟨(bw_of 457 (by decide +kernel) rfl), (bw_of 43 (by decide +kernel) rfl), (bw_of 44 (by decide +kernel) rfl), rfl⟩
set_option maxRecDepth 100000 in
theorem lk_4_115 : lkG 4 115 1 MX1_at := ⟨(bw_of 456 (by decide +kernel) rfl), (bw_of 249 (by decide +kernel) rfl), (bw_of 250 (by decide +kernel) rfl), rfl⟩
set_option maxRecDepth 100000 in
theorem lk_4_100 : lkG 4 100 1 MX2_tick := ⟨(bw_of 463 (by decide +kernel) rfl), (bw_of 464 (by decide +kernel) rfl), (bw_of 465 (by decide +kernel) rfl), rfl⟩
set_option maxRecDepth 100000 in
theorem lk_4_95 : lkG 4 95 1 MX2_passOver := ⟨(bw_of 437 (by decide +kernel) rfl), (bw_of 438 (by decide +kernel) rfl), (bw_of 439 (by decide +kernel) rfl), rfl⟩
set_option maxRecDepth 100000 in
theorem lk_4_89 : lkG 4 89 1 MX2_canPassOver := ⟨(bw_of 435 (by decide +kernel) rfl), (bw_of 427 (by decide +kernel) rfl), (bw_of 428 (by decide +kernel) rfl), rfl⟩
