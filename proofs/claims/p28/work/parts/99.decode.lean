set_option maxRecDepth 100000 in
theorem dk_X0_init : ∀ e ∈ TX0_init, decode cX0_init e.1 = .ok (e.2.1, e.2.2) := by decide +kernel
set_option maxRecDepth 100000 in
theorem dk_X0_slotAt : ∀ e ∈ TX0_slotAt, decode cX0_slotAt e.1 = .ok (e.2.1, e.2.2) := by decide +kernel
set_option maxRecDepth 100000 in
theorem dk_X0_save : ∀ e ∈ TX0_save, decode cX0_save e.1 = .ok (e.2.1, e.2.2) := by decide +kernel
set_option maxRecDepth 100000 in
theorem dk_X1_init : ∀ e ∈ TX1_init, decode cX1_init e.1 = .ok (e.2.1, e.2.2) := by decide +kernel
set_option maxRecDepth 100000 in
theorem dk_X1_at : ∀ e ∈ TX1_at, decode cX1_at e.1 = .ok (e.2.1, e.2.2) := by decide +kernel
set_option maxRecDepth 100000 in
theorem dk_X1_put : ∀ e ∈ TX1_put, decode cX1_put e.1 = .ok (e.2.1, e.2.2) := by decide +kernel
set_option maxRecDepth 100000 in
theorem dk_X1_raise : ∀ e ∈ TX1_raise, decode cX1_raise e.1 = .ok (e.2.1, e.2.2) := by decide +kernel
set_option maxRecDepth 100000 in
theorem dk_X1_sum : ∀ e ∈ TX1_sum, decode cX1_sum e.1 = .ok (e.2.1, e.2.2) := by decide +kernel
set_option maxRecDepth 100000 in
theorem dk_X1_copyFrom : ∀ e ∈ TX1_copyFrom, decode cX1_copyFrom e.1 = .ok (e.2.1, e.2.2) := by decide +kernel
set_option maxRecDepth 100000 in
theorem dk_X2_init_0 : ∀ e ∈ TX2_init_0, decode cX2_init e.1 = .ok (e.2.1, e.2.2) := by decide +kernel
set_option maxRecDepth 100000 in
theorem dk_X2_init_1 : ∀ e ∈ TX2_init_1, decode cX2_init e.1 = .ok (e.2.1, e.2.2) := by decide +kernel
theorem dk_X2_init : ∀ e ∈ TX2_init, decode cX2_init e.1 = .ok (e.2.1, e.2.2) := by
  intro e h
  simp only [TX2_init, List.mem_append] at h
  rcases h with h | h
  · exact dk_X2_init_0 e h
  · exact dk_X2_init_1 e h
set_option maxRecDepth 100000 in
theorem dk_X2_copyFrom_0 : ∀ e ∈ TX2_copyFrom_0, decode cX2_copyFrom e.1 = .ok (e.2.1, e.2.2) := by decide +kernel
set_option maxRecDepth 100000 in
theorem dk_X2_copyFrom_1 : ∀ e ∈ TX2_copyFrom_1, decode cX2_copyFrom e.1 = .ok (e.2.1, e.2.2) := by decide +kernel
theorem dk_X2_copyFrom : ∀ e ∈ TX2_copyFrom, decode cX2_copyFrom e.1 = .ok (e.2.1, e.2.2) := by
  intro e h
  simp only [TX2_copyFrom, List.mem_append] at h
  rcases h with h | h
  · exact dk_X2_copyFrom_0 e h
  · exact dk_X2_copyFrom_1 e h
set_option maxRecDepth 100000 in
theorem dk_X2_isWaiting : ∀ e ∈ TX2_isWaiting, decode cX2_isWaiting e.1 = .ok (e.2.1, e.2.2) := by decide +kernel
set_option maxRecDepth 100000 in
theorem dk_X2_queueLength : ∀ e ∈ TX2_queueLength, decode cX2_queueLength e.1 = .ok (e.2.1, e.2.2) := by decide +kernel
set_option maxRecDepth 100000 in
theorem dk_X2_handAt : ∀ e ∈ TX2_handAt, decode cX2_handAt e.1 = .ok (e.2.1, e.2.2) := by decide +kernel
set_option maxRecDepth 100000 in
theorem dk_X2_enqueue : ∀ e ∈ TX2_enqueue, decode cX2_enqueue e.1 = .ok (e.2.1, e.2.2) := by decide +kernel
set_option maxRecDepth 100000 in
theorem dk_X2_placeForHolder : ∀ e ∈ TX2_placeForHolder, decode cX2_placeForHolder e.1 = .ok (e.2.1, e.2.2) := by decide +kernel
set_option maxRecDepth 100000 in
theorem dk_X2_dequeue : ∀ e ∈ TX2_dequeue, decode cX2_dequeue e.1 = .ok (e.2.1, e.2.2) := by decide +kernel
set_option maxRecDepth 100000 in
theorem dk_X2_clashes : ∀ e ∈ TX2_clashes, decode cX2_clashes e.1 = .ok (e.2.1, e.2.2) := by decide +kernel
set_option maxRecDepth 100000 in
theorem dk_X2_grant : ∀ e ∈ TX2_grant, decode cX2_grant e.1 = .ok (e.2.1, e.2.2) := by decide +kernel
set_option maxRecDepth 100000 in
theorem dk_X2_settle : ∀ e ∈ TX2_settle, decode cX2_settle e.1 = .ok (e.2.1, e.2.2) := by decide +kernel
set_option maxRecDepth 100000 in
theorem dk_X2_direct_0 : ∀ e ∈ TX2_direct_0, decode cX2_direct e.1 = .ok (e.2.1, e.2.2) := by decide +kernel
set_option maxRecDepth 100000 in
theorem dk_X2_direct_1 : ∀ e ∈ TX2_direct_1, decode cX2_direct e.1 = .ok (e.2.1, e.2.2) := by decide +kernel
theorem dk_X2_direct : ∀ e ∈ TX2_direct, decode cX2_direct e.1 = .ok (e.2.1, e.2.2) := by
  intro e h
  simp only [TX2_direct, List.mem_append] at h
  rcases h with h | h
  · exact dk_X2_direct_0 e h
  · exact dk_X2_direct_1 e h
set_option maxRecDepth 100000 in
theorem dk_X2_reach : ∀ e ∈ TX2_reach, decode cX2_reach e.1 = .ok (e.2.1, e.2.2) := by decide +kernel
set_option maxRecDepth 100000 in
theorem dk_X2_loserFor : ∀ e ∈ TX2_loserFor, decode cX2_loserFor e.1 = .ok (e.2.1, e.2.2) := by decide +kernel
set_option maxRecDepth 100000 in
theorem dk_X2_strip : ∀ e ∈ TX2_strip, decode cX2_strip e.1 = .ok (e.2.1, e.2.2) := by decide +kernel
set_option maxRecDepth 100000 in
theorem dk_X2_takeAsking_0 : ∀ e ∈ TX2_takeAsking_0, decode cX2_takeAsking e.1 = .ok (e.2.1, e.2.2) := by decide +kernel
set_option maxRecDepth 100000 in
theorem dk_X2_takeAsking_1 : ∀ e ∈ TX2_takeAsking_1, decode cX2_takeAsking e.1 = .ok (e.2.1, e.2.2) := by decide +kernel
theorem dk_X2_takeAsking : ∀ e ∈ TX2_takeAsking, decode cX2_takeAsking e.1 = .ok (e.2.1, e.2.2) := by
  intro e h
  simp only [TX2_takeAsking, List.mem_append] at h
  rcases h with h | h
  · exact dk_X2_takeAsking_0 e h
  · exact dk_X2_takeAsking_1 e h
set_option maxRecDepth 100000 in
theorem dk_X2_canLetGo : ∀ e ∈ TX2_canLetGo, decode cX2_canLetGo e.1 = .ok (e.2.1, e.2.2) := by decide +kernel
set_option maxRecDepth 100000 in
theorem dk_X2_letGo : ∀ e ∈ TX2_letGo, decode cX2_letGo e.1 = .ok (e.2.1, e.2.2) := by decide +kernel
set_option maxRecDepth 100000 in
theorem dk_X2_stopWaiting : ∀ e ∈ TX2_stopWaiting, decode cX2_stopWaiting e.1 = .ok (e.2.1, e.2.2) := by decide +kernel
set_option maxRecDepth 100000 in
theorem dk_X2_canPassOver : ∀ e ∈ TX2_canPassOver, decode cX2_canPassOver e.1 = .ok (e.2.1, e.2.2) := by decide +kernel
set_option maxRecDepth 100000 in
theorem dk_X2_passOver : ∀ e ∈ TX2_passOver, decode cX2_passOver e.1 = .ok (e.2.1, e.2.2) := by decide +kernel
set_option maxRecDepth 100000 in
theorem dk_X2_takersOf : ∀ e ∈ TX2_takersOf, decode cX2_takersOf e.1 = .ok (e.2.1, e.2.2) := by decide +kernel
set_option maxRecDepth 100000 in
theorem dk_X2_heatAfter : ∀ e ∈ TX2_heatAfter, decode cX2_heatAfter e.1 = .ok (e.2.1, e.2.2) := by decide +kernel
set_option maxRecDepth 100000 in
theorem dk_X2_tick : ∀ e ∈ TX2_tick, decode cX2_tick e.1 = .ok (e.2.1, e.2.2) := by decide +kernel
set_option maxRecDepth 100000 in
theorem dk_X2_burn : ∀ e ∈ TX2_burn, decode cX2_burn e.1 = .ok (e.2.1, e.2.2) := by decide +kernel
set_option maxRecDepth 100000 in
theorem dk_X2_greatestMode : ∀ e ∈ TX2_greatestMode, decode cX2_greatestMode e.1 = .ok (e.2.1, e.2.2) := by decide +kernel
set_option maxRecDepth 100000 in
theorem dk_X2_holders : ∀ e ∈ TX2_holders, decode cX2_holders e.1 = .ok (e.2.1, e.2.2) := by decide +kernel
set_option maxRecDepth 100000 in
theorem dk_X2_locksOf : ∀ e ∈ TX2_locksOf, decode cX2_locksOf e.1 = .ok (e.2.1, e.2.2) := by decide +kernel
set_option maxRecDepth 100000 in
theorem dk_X2_work : ∀ e ∈ TX2_work, decode cX2_work e.1 = .ok (e.2.1, e.2.2) := by decide +kernel
set_option maxRecDepth 100000 in
theorem dk_X2_lockCount : ∀ e ∈ TX2_lockCount, decode cX2_lockCount e.1 = .ok (e.2.1, e.2.2) := by decide +kernel
set_option maxRecDepth 100000 in
theorem dk_X2_waitingCount : ∀ e ∈ TX2_waitingCount, decode cX2_waitingCount e.1 = .ok (e.2.1, e.2.2) := by decide +kernel
set_option maxRecDepth 100000 in
theorem dk_X2_heldRows : ∀ e ∈ TX2_heldRows, decode cX2_heldRows e.1 = .ok (e.2.1, e.2.2) := by decide +kernel
set_option maxRecDepth 100000 in
theorem dk_X2_handPart : ∀ e ∈ TX2_handPart, decode cX2_handPart e.1 = .ok (e.2.1, e.2.2) := by decide +kernel
set_option maxRecDepth 100000 in
theorem dk_X2_rowPart : ∀ e ∈ TX2_rowPart, decode cX2_rowPart e.1 = .ok (e.2.1, e.2.2) := by decide +kernel
set_option maxRecDepth 100000 in
theorem dk_X2_requestPart : ∀ e ∈ TX2_requestPart, decode cX2_requestPart e.1 = .ok (e.2.1, e.2.2) := by decide +kernel
set_option maxRecDepth 100000 in
theorem dk_X2_total : ∀ e ∈ TX2_total, decode cX2_total e.1 = .ok (e.2.1, e.2.2) := by decide +kernel
set_option maxRecDepth 100000 in
theorem dk_X3_init : ∀ e ∈ TX3_init, decode cX3_init e.1 = .ok (e.2.1, e.2.2) := by decide +kernel
set_option maxRecDepth 100000 in
theorem dk_X4_init : ∀ e ∈ TX4_init, decode cX4_init e.1 = .ok (e.2.1, e.2.2) := by decide +kernel
set_option maxRecDepth 100000 in
theorem dk_X4_ask : ∀ e ∈ TX4_ask, decode cX4_ask e.1 = .ok (e.2.1, e.2.2) := by decide +kernel
set_option maxRecDepth 100000 in
theorem dk_X4_release : ∀ e ∈ TX4_release, decode cX4_release e.1 = .ok (e.2.1, e.2.2) := by decide +kernel
set_option maxRecDepth 100000 in
theorem dk_X4_giveUp : ∀ e ∈ TX4_giveUp, decode cX4_giveUp e.1 = .ok (e.2.1, e.2.2) := by decide +kernel
set_option maxRecDepth 100000 in
theorem dk_X4_handOn : ∀ e ∈ TX4_handOn, decode cX4_handOn e.1 = .ok (e.2.1, e.2.2) := by decide +kernel
set_option maxRecDepth 100000 in
theorem dk_X4_pass : ∀ e ∈ TX4_pass, decode cX4_pass e.1 = .ok (e.2.1, e.2.2) := by decide +kernel
set_option maxRecDepth 100000 in
theorem dk_X4_set : ∀ e ∈ TX4_set, decode cX4_set e.1 = .ok (e.2.1, e.2.2) := by decide +kernel
set_option maxRecDepth 100000 in
theorem dk_X4_lock : ∀ e ∈ TX4_lock, decode cX4_lock e.1 = .ok (e.2.1, e.2.2) := by decide +kernel
set_option maxRecDepth 100000 in
theorem dk_X4_hand : ∀ e ∈ TX4_hand, decode cX4_hand e.1 = .ok (e.2.1, e.2.2) := by decide +kernel
set_option maxRecDepth 100000 in
theorem dk_X4_row : ∀ e ∈ TX4_row, decode cX4_row e.1 = .ok (e.2.1, e.2.2) := by decide +kernel
set_option maxRecDepth 100000 in
theorem dk_X4_request : ∀ e ∈ TX4_request, decode cX4_request e.1 = .ok (e.2.1, e.2.2) := by decide +kernel
set_option maxRecDepth 100000 in
theorem dk_X4_count : ∀ e ∈ TX4_count, decode cX4_count e.1 = .ok (e.2.1, e.2.2) := by decide +kernel
set_option maxRecDepth 100000 in
theorem dk_X4_takers : ∀ e ∈ TX4_takers, decode cX4_takers e.1 = .ok (e.2.1, e.2.2) := by decide +kernel
set_option maxRecDepth 100000 in
theorem dk_X4_waitsFor : ∀ e ∈ TX4_waitsFor, decode cX4_waitsFor e.1 = .ok (e.2.1, e.2.2) := by decide +kernel
set_option maxRecDepth 100000 in
theorem dk_X4_isHand : ∀ e ∈ TX4_isHand, decode cX4_isHand e.1 = .ok (e.2.1, e.2.2) := by decide +kernel
set_option maxRecDepth 100000 in
theorem dk_X4_isRow : ∀ e ∈ TX4_isRow, decode cX4_isRow e.1 = .ok (e.2.1, e.2.2) := by decide +kernel
set_option maxRecDepth 100000 in
theorem dk_X4_isMode : ∀ e ∈ TX4_isMode, decode cX4_isMode e.1 = .ok (e.2.1, e.2.2) := by decide +kernel
set_option maxRecDepth 100000 in
theorem dk_X4_isSetting : ∀ e ∈ TX4_isSetting, decode cX4_isSetting e.1 = .ok (e.2.1, e.2.2) := by decide +kernel
set_option maxRecDepth 100000 in
theorem dk_X4_leastValue : ∀ e ∈ TX4_leastValue, decode cX4_leastValue e.1 = .ok (e.2.1, e.2.2) := by decide +kernel
set_option maxRecDepth 100000 in
theorem dk_X4_greatestValue : ∀ e ∈ TX4_greatestValue, decode cX4_greatestValue e.1 = .ok (e.2.1, e.2.2) := by decide +kernel
set_option maxRecDepth 100000 in
theorem dk_X4_cell : ∀ e ∈ TX4_cell, decode cX4_cell e.1 = .ok (e.2.1, e.2.2) := by decide +kernel
set_option maxRecDepth 100000 in
theorem dk_X4_has : ∀ e ∈ TX4_has, decode cX4_has e.1 = .ok (e.2.1, e.2.2) := by decide +kernel
set_option maxRecDepth 100000 in
theorem dk_X4_numberOf : ∀ e ∈ TX4_numberOf, decode cX4_numberOf e.1 = .ok (e.2.1, e.2.2) := by decide +kernel
set_option maxRecDepth 100000 in
theorem dk_J9_max_7cf53 : ∀ e ∈ TJ9_max_7cf53, decode cJ9_max_7cf53 e.1 = .ok (e.2.1, e.2.2) := by decide +kernel
set_option maxRecDepth 100000 in
theorem dk_J9_min_7cf53 : ∀ e ∈ TJ9_min_7cf53, decode cJ9_min_7cf53 e.1 = .ok (e.2.1, e.2.2) := by decide +kernel
set_option maxRecDepth 100000 in
theorem dk_L_cell : ∀ e ∈ TL_cell, decode cL_cell e.1 = .ok (e.2.1, e.2.2) := by decide +kernel
set_option maxRecDepth 100000 in
theorem dk_L_at : ∀ e ∈ TL_at, decode cL_at e.1 = .ok (e.2.1, e.2.2) := by decide +kernel
set_option maxRecDepth 100000 in
theorem dk_L_rowOf : ∀ e ∈ TL_rowOf, decode cL_rowOf e.1 = .ok (e.2.1, e.2.2) := by decide +kernel
set_option maxRecDepth 100000 in
theorem dk_L_clashes : ∀ e ∈ TL_clashes, decode cL_clashes e.1 = .ok (e.2.1, e.2.2) := by decide +kernel
set_option maxRecDepth 100000 in
theorem dk_L_waits_0 : ∀ e ∈ TL_waits_0, decode cL_waits e.1 = .ok (e.2.1, e.2.2) := by decide +kernel
set_option maxRecDepth 100000 in
theorem dk_L_waits_1 : ∀ e ∈ TL_waits_1, decode cL_waits e.1 = .ok (e.2.1, e.2.2) := by decide +kernel
theorem dk_L_waits : ∀ e ∈ TL_waits, decode cL_waits e.1 = .ok (e.2.1, e.2.2) := by
  intro e h
  simp only [TL_waits, List.mem_append] at h
  rcases h with h | h
  · exact dk_L_waits_0 e h
  · exact dk_L_waits_1 e h
set_option maxRecDepth 100000 in
theorem dk_L_over : ∀ e ∈ TL_over, decode cL_over e.1 = .ok (e.2.1, e.2.2) := by decide +kernel
set_option maxRecDepth 100000 in
theorem dk_L_leave : ∀ e ∈ TL_leave, decode cL_leave e.1 = .ok (e.2.1, e.2.2) := by decide +kernel
set_option maxRecDepth 100000 in
theorem dk_L_settle_0 : ∀ e ∈ TL_settle_0, decode cL_settle e.1 = .ok (e.2.1, e.2.2) := by decide +kernel
set_option maxRecDepth 100000 in
theorem dk_L_settle_1 : ∀ e ∈ TL_settle_1, decode cL_settle e.1 = .ok (e.2.1, e.2.2) := by decide +kernel
theorem dk_L_settle : ∀ e ∈ TL_settle, decode cL_settle e.1 = .ok (e.2.1, e.2.2) := by
  intro e h
  simp only [TL_settle, List.mem_append] at h
  rcases h with h | h
  · exact dk_L_settle_0 e h
  · exact dk_L_settle_1 e h
set_option maxRecDepth 100000 in
theorem dk_L_work : ∀ e ∈ TL_work, decode cL_work e.1 = .ok (e.2.1, e.2.2) := by decide +kernel
set_option maxRecDepth 100000 in
theorem dk_L_asks_0 : ∀ e ∈ TL_asks_0, decode cL_asks e.1 = .ok (e.2.1, e.2.2) := by decide +kernel
set_option maxRecDepth 100000 in
theorem dk_L_asks_1 : ∀ e ∈ TL_asks_1, decode cL_asks e.1 = .ok (e.2.1, e.2.2) := by decide +kernel
set_option maxRecDepth 100000 in
theorem dk_L_asks_2 : ∀ e ∈ TL_asks_2, decode cL_asks e.1 = .ok (e.2.1, e.2.2) := by decide +kernel
set_option maxRecDepth 100000 in
theorem dk_L_asks_3 : ∀ e ∈ TL_asks_3, decode cL_asks e.1 = .ok (e.2.1, e.2.2) := by decide +kernel
set_option maxRecDepth 100000 in
theorem dk_L_asks_4 : ∀ e ∈ TL_asks_4, decode cL_asks e.1 = .ok (e.2.1, e.2.2) := by decide +kernel
theorem dk_L_asks : ∀ e ∈ TL_asks, decode cL_asks e.1 = .ok (e.2.1, e.2.2) := by
  intro e h
  simp only [TL_asks, List.mem_append] at h
  rcases h with (((h | h) | h) | h) | h
  · exact dk_L_asks_0 e h
  · exact dk_L_asks_1 e h
  · exact dk_L_asks_2 e h
  · exact dk_L_asks_3 e h
  · exact dk_L_asks_4 e h
set_option maxRecDepth 100000 in
theorem dk_L_act_0 : ∀ e ∈ TL_act_0, decode cL_act e.1 = .ok (e.2.1, e.2.2) := by decide +kernel
set_option maxRecDepth 100000 in
theorem dk_L_act_1 : ∀ e ∈ TL_act_1, decode cL_act e.1 = .ok (e.2.1, e.2.2) := by decide +kernel
set_option maxRecDepth 100000 in
theorem dk_L_act_2 : ∀ e ∈ TL_act_2, decode cL_act e.1 = .ok (e.2.1, e.2.2) := by decide +kernel
set_option maxRecDepth 100000 in
theorem dk_L_act_3 : ∀ e ∈ TL_act_3, decode cL_act e.1 = .ok (e.2.1, e.2.2) := by decide +kernel
set_option maxRecDepth 100000 in
theorem dk_L_act_4 : ∀ e ∈ TL_act_4, decode cL_act e.1 = .ok (e.2.1, e.2.2) := by decide +kernel
set_option maxRecDepth 100000 in
theorem dk_L_act_5 : ∀ e ∈ TL_act_5, decode cL_act e.1 = .ok (e.2.1, e.2.2) := by decide +kernel
set_option maxRecDepth 100000 in
theorem dk_L_act_6 : ∀ e ∈ TL_act_6, decode cL_act e.1 = .ok (e.2.1, e.2.2) := by decide +kernel
set_option maxRecDepth 100000 in
theorem dk_L_act_7 : ∀ e ∈ TL_act_7, decode cL_act e.1 = .ok (e.2.1, e.2.2) := by decide +kernel
set_option maxRecDepth 100000 in
theorem dk_L_act_8 : ∀ e ∈ TL_act_8, decode cL_act e.1 = .ok (e.2.1, e.2.2) := by decide +kernel
set_option maxRecDepth 100000 in
theorem dk_L_act_9 : ∀ e ∈ TL_act_9, decode cL_act e.1 = .ok (e.2.1, e.2.2) := by decide +kernel
theorem dk_L_act : ∀ e ∈ TL_act, decode cL_act e.1 = .ok (e.2.1, e.2.2) := by
  intro e h
  simp only [TL_act, List.mem_append] at h
  rcases h with ((((((((h | h) | h) | h) | h) | h) | h) | h) | h) | h
  · exact dk_L_act_0 e h
  · exact dk_L_act_1 e h
  · exact dk_L_act_2 e h
  · exact dk_L_act_3 e h
  · exact dk_L_act_4 e h
  · exact dk_L_act_5 e h
  · exact dk_L_act_6 e h
  · exact dk_L_act_7 e h
  · exact dk_L_act_8 e h
  · exact dk_L_act_9 e h
set_option maxRecDepth 100000 in
theorem dk_L_agree_0 : ∀ e ∈ TL_agree_0, decode cL_agree e.1 = .ok (e.2.1, e.2.2) := by decide +kernel
set_option maxRecDepth 100000 in
theorem dk_L_agree_1 : ∀ e ∈ TL_agree_1, decode cL_agree e.1 = .ok (e.2.1, e.2.2) := by decide +kernel
set_option maxRecDepth 100000 in
theorem dk_L_agree_2 : ∀ e ∈ TL_agree_2, decode cL_agree e.1 = .ok (e.2.1, e.2.2) := by decide +kernel
set_option maxRecDepth 100000 in
theorem dk_L_agree_3 : ∀ e ∈ TL_agree_3, decode cL_agree e.1 = .ok (e.2.1, e.2.2) := by decide +kernel
set_option maxRecDepth 100000 in
theorem dk_L_agree_4 : ∀ e ∈ TL_agree_4, decode cL_agree e.1 = .ok (e.2.1, e.2.2) := by decide +kernel
theorem dk_L_agree : ∀ e ∈ TL_agree, decode cL_agree e.1 = .ok (e.2.1, e.2.2) := by
  intro e h
  simp only [TL_agree, List.mem_append] at h
  rcases h with (((h | h) | h) | h) | h
  · exact dk_L_agree_0 e h
  · exact dk_L_agree_1 e h
  · exact dk_L_agree_2 e h
  · exact dk_L_agree_3 e h
  · exact dk_L_agree_4 e h
set_option maxRecDepth 100000 in
theorem dk_L_law_0 : ∀ e ∈ TL_law_0, decode cL_law e.1 = .ok (e.2.1, e.2.2) := by decide +kernel
set_option maxRecDepth 100000 in
theorem dk_L_law_1 : ∀ e ∈ TL_law_1, decode cL_law e.1 = .ok (e.2.1, e.2.2) := by decide +kernel
theorem dk_L_law : ∀ e ∈ TL_law, decode cL_law e.1 = .ok (e.2.1, e.2.2) := by
  intro e h
  simp only [TL_law, List.mem_append] at h
  rcases h with h | h
  · exact dk_L_law_0 e h
  · exact dk_L_law_1 e h
