set_option maxRecDepth 100000 in
theorem mi_X2_grant : miG MX2_grant := ⟨(by decide +kernel), (bw_of 355 rfl rfl), (bw_of 5 (by decide +kernel) rfl), ⟨(by decide +kernel), (by decide +kernel), (by decide +kernel)⟩, rfl⟩
set_option maxRecDepth 100000 in
theorem mi_X2_settle : miG MX2_settle := ⟨(by decide +kernel), (bw_of 343 rfl rfl), (bw_of 5 (by decide +kernel) rfl), ⟨(by decide +kernel), (by decide +kernel), (by decide +kernel)⟩, rfl⟩
set_option maxRecDepth 100000 in
theorem mi_X2_direct : miG MX2_direct := ⟨(by decide +kernel), (bw_of 259 rfl rfl), (bw_of 5 (by decide +kernel) rfl), ⟨(by decide +kernel), (by decide +kernel), (by decide +kernel)⟩, rfl⟩
set_option maxRecDepth 100000 in
theorem mi_X4_has : miG MX4_has := ⟨(by decide +kernel), (bw_of 370 rfl rfl), (bw_of 4 (by decide +kernel) rfl), ⟨(by decide +kernel), (by decide +kernel), (by decide +kernel)⟩, rfl⟩
set_option maxRecDepth 100000 in
theorem mi_X2_reach : miG MX2_reach := ⟨(by decide +kernel), (bw_of 367 rfl rfl), (bw_of 5 (by decide +kernel) rfl), ⟨(by decide +kernel), (by decide +kernel), (by decide +kernel)⟩, rfl⟩
set_option maxRecDepth 100000 in
theorem mi_X2_work : miG MX2_work := ⟨(by decide +kernel), (bw_of 255 rfl rfl), (bw_of 5 (by decide +kernel) rfl), ⟨(by decide +kernel), (by decide +kernel), (by decide +kernel)⟩, rfl⟩
set_option maxRecDepth 100000 in
theorem mi_X2_loserFor : miG MX2_loserFor := ⟨(by decide +kernel), (bw_of 363 rfl rfl), (bw_of 5 (by decide +kernel) rfl), ⟨(by decide +kernel), (by decide +kernel), (by decide +kernel)⟩, rfl⟩
set_option maxRecDepth 100000 in
theorem mi_X2_strip : miG MX2_strip := ⟨(by decide +kernel), (bw_of 374 rfl rfl), (bw_of 5 (by decide +kernel) rfl), ⟨(by decide +kernel), (by decide +kernel), (by decide +kernel)⟩, rfl⟩
set_option maxRecDepth 100000 in
theorem mi_X2_takeAsking : miG MX2_takeAsking := ⟨(by decide +kernel), (bw_of 318 rfl rfl), (bw_of 5 (by decide +kernel) rfl), ⟨(by decide +kernel), (by decide +kernel), (by decide +kernel)⟩, rfl⟩
set_option maxRecDepth 100000 in
theorem mi_X2_canLetGo : miG MX2_canLetGo := ⟨(by decide +kernel), (bw_of 403 rfl rfl), (bw_of 5 (by decide +kernel) rfl), ⟨(by decide +kernel), (by decide +kernel), (by decide +kernel)⟩, rfl⟩
set_option maxRecDepth 100000 in
theorem mi_X2_letGo : miG MX2_letGo := ⟨(by decide +kernel), (bw_of 408 rfl rfl), (bw_of 5 (by decide +kernel) rfl), ⟨(by decide +kernel), (by decide +kernel), (by decide +kernel)⟩, rfl⟩
set_option maxRecDepth 100000 in
theorem mi_X2_stopWaiting : miG MX2_stopWaiting := ⟨(by decide +kernel), (bw_of 417 rfl rfl), (bw_of 5 (by decide +kernel) rfl), ⟨(by decide +kernel), (by decide +kernel), (by decide +kernel)⟩, rfl⟩
set_option maxRecDepth 100000 in
theorem mi_X2_canPassOver : miG MX2_canPassOver := ⟨(by decide +kernel), (bw_of 429 rfl rfl), (bw_of 5 (by decide +kernel) rfl), ⟨(by decide +kernel), (by decide +kernel), (by decide +kernel)⟩, rfl⟩
set_option maxRecDepth 100000 in
theorem mi_X2_passOver : miG MX2_passOver := ⟨(by decide +kernel), (bw_of 440 rfl rfl), (bw_of 5 (by decide +kernel) rfl), ⟨(by decide +kernel), (by decide +kernel), (by decide +kernel)⟩, rfl⟩
set_option maxRecDepth 100000 in
theorem mi_X2_takersOf : miG MX2_takersOf := ⟨(by decide +kernel), (bw_of 425 rfl rfl), (bw_of 5 (by decide +kernel) rfl), ⟨(by decide +kernel), (by decide +kernel), (by decide +kernel)⟩, rfl⟩
set_option maxRecDepth 100000 in
theorem mi_X2_heatAfter : miG MX2_heatAfter := ⟨(by decide +kernel), (bw_of 474 rfl rfl), (bw_of 5 (by decide +kernel) rfl), ⟨(by decide +kernel), (by decide +kernel), (by decide +kernel)⟩, rfl⟩
set_option maxRecDepth 100000 in
theorem mi_X2_greatestMode : miG MX2_greatestMode := ⟨(by decide +kernel), (bw_of 470 rfl rfl), (bw_of 5 (by decide +kernel) rfl), ⟨(by decide +kernel), (by decide +kernel), (by decide +kernel)⟩, rfl⟩
set_option maxRecDepth 100000 in
theorem mi_X2_burn : miG MX2_burn := ⟨(by decide +kernel), (bw_of 479 rfl rfl), (bw_of 5 (by decide +kernel) rfl), ⟨(by decide +kernel), (by decide +kernel), (by decide +kernel)⟩, rfl⟩
set_option maxRecDepth 100000 in
theorem mi_X2_tick : miG MX2_tick := ⟨(by decide +kernel), (bw_of 466 rfl rfl), (bw_of 5 (by decide +kernel) rfl), ⟨(by decide +kernel), (by decide +kernel), (by decide +kernel)⟩, rfl⟩
set_option maxRecDepth 100000 in
theorem mi_X2_holders : miG MX2_holders := ⟨(by decide +kernel), (bw_of 506 rfl rfl), (bw_of 5 (by decide +kernel) rfl), ⟨(by decide +kernel), (by decide +kernel), (by decide +kernel)⟩, rfl⟩
set_option maxRecDepth 100000 in
theorem mi_X2_locksOf : miG MX2_locksOf := ⟨(by decide +kernel), (bw_of 244 rfl rfl), (bw_of 5 (by decide +kernel) rfl), ⟨(by decide +kernel), (by decide +kernel), (by decide +kernel)⟩, rfl⟩
set_option maxRecDepth 100000 in
theorem mi_X2_lockCount : miG MX2_lockCount := ⟨(by decide +kernel), (bw_of 532 rfl rfl), (bw_of 5 (by decide +kernel) rfl), ⟨(by decide +kernel), (by decide +kernel), (by decide +kernel)⟩, rfl⟩
set_option maxRecDepth 100000 in
theorem mi_X2_waitingCount : miG MX2_waitingCount := ⟨(by decide +kernel), (bw_of 536 rfl rfl), (bw_of 5 (by decide +kernel) rfl), ⟨(by decide +kernel), (by decide +kernel), (by decide +kernel)⟩, rfl⟩
set_option maxRecDepth 100000 in
theorem mi_X2_heldRows : miG MX2_heldRows := ⟨(by decide +kernel), (bw_of 544 rfl rfl), (bw_of 5 (by decide +kernel) rfl), ⟨(by decide +kernel), (by decide +kernel), (by decide +kernel)⟩, rfl⟩
set_option maxRecDepth 100000 in
theorem mi_X2_handPart : miG MX2_handPart := ⟨(by decide +kernel), (bw_of 240 rfl rfl), (bw_of 5 (by decide +kernel) rfl), ⟨(by decide +kernel), (by decide +kernel), (by decide +kernel)⟩, rfl⟩
set_option maxRecDepth 100000 in
theorem mi_X2_rowPart : miG MX2_rowPart := ⟨(by decide +kernel), (bw_of 502 rfl rfl), (bw_of 5 (by decide +kernel) rfl), ⟨(by decide +kernel), (by decide +kernel), (by decide +kernel)⟩, rfl⟩
set_option maxRecDepth 100000 in
theorem mi_X2_requestPart : miG MX2_requestPart := ⟨(by decide +kernel), (bw_of 515 rfl rfl), (bw_of 5 (by decide +kernel) rfl), ⟨(by decide +kernel), (by decide +kernel), (by decide +kernel)⟩, rfl⟩
set_option maxRecDepth 100000 in
theorem mi_X2_total : miG MX2_total := ⟨(by decide +kernel), (bw_of 528 rfl rfl), (bw_of 5 (by decide +kernel) rfl), ⟨(by decide +kernel), (by decide +kernel), (by decide +kernel)⟩, rfl⟩
set_option maxRecDepth 100000 in
theorem mi_X4_isHand : miG MX4_isHand := ⟨(by decide +kernel), (bw_of 152 rfl rfl), (bw_of 4 (by decide +kernel) rfl), ⟨(by decide +kernel), (by decide +kernel), (by decide +kernel)⟩, rfl⟩
set_option maxRecDepth 100000 in
theorem mi_X4_isRow : miG MX4_isRow := ⟨(by decide +kernel), (bw_of 270 rfl rfl), (bw_of 4 (by decide +kernel) rfl), ⟨(by decide +kernel), (by decide +kernel), (by decide +kernel)⟩, rfl⟩
set_option maxRecDepth 100000 in
theorem mi_X4_isMode : miG MX4_isMode := ⟨(by decide +kernel), (bw_of 274 rfl rfl), (bw_of 4 (by decide +kernel) rfl), ⟨(by decide +kernel), (by decide +kernel), (by decide +kernel)⟩, rfl⟩
set_option maxRecDepth 100000 in
theorem mi_X4_ask : miG MX4_ask := ⟨(by decide +kernel), (bw_of 267 rfl rfl), (bw_of 4 (by decide +kernel) rfl), ⟨(by decide +kernel), (by decide +kernel), (by decide +kernel)⟩, rfl⟩
set_option maxRecDepth 100000 in
theorem mi_X4_release : miG MX4_release := ⟨(by decide +kernel), (bw_of 399 rfl rfl), (bw_of 4 (by decide +kernel) rfl), ⟨(by decide +kernel), (by decide +kernel), (by decide +kernel)⟩, rfl⟩
set_option maxRecDepth 100000 in
theorem mi_X4_giveUp : miG MX4_giveUp := ⟨(by decide +kernel), (bw_of 412 rfl rfl), (bw_of 4 (by decide +kernel) rfl), ⟨(by decide +kernel), (by decide +kernel), (by decide +kernel)⟩, rfl⟩
set_option maxRecDepth 100000 in
theorem mi_X4_handOn : miG MX4_handOn := ⟨(by decide +kernel), (bw_of 434 rfl rfl), (bw_of 4 (by decide +kernel) rfl), ⟨(by decide +kernel), (by decide +kernel), (by decide +kernel)⟩, rfl⟩
set_option maxRecDepth 100000 in
theorem mi_X4_pass : miG MX4_pass := ⟨(by decide +kernel), (bw_of 461 rfl rfl), (bw_of 4 (by decide +kernel) rfl), ⟨(by decide +kernel), (by decide +kernel), (by decide +kernel)⟩, rfl⟩
set_option maxRecDepth 100000 in
theorem mi_X4_isSetting : miG MX4_isSetting := ⟨(by decide +kernel), (bw_of 447 rfl rfl), (bw_of 4 (by decide +kernel) rfl), ⟨(by decide +kernel), (by decide +kernel), (by decide +kernel)⟩, rfl⟩
set_option maxRecDepth 100000 in
theorem mi_X4_leastValue : miG MX4_leastValue := ⟨(by decide +kernel), (bw_of 451 rfl rfl), (bw_of 4 (by decide +kernel) rfl), ⟨(by decide +kernel), (by decide +kernel), (by decide +kernel)⟩, rfl⟩
