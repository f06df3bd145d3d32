set_option maxRecDepth 100000 in
theorem dk_X0_init : ∀ e ∈ TX0_init, decode cX0_init e.1 = .ok (e.2.1, e.2.2) := by decide +kernel
set_option maxRecDepth 100000 in
theorem dk_X0_slotAt : ∀ e ∈ TX0_slotAt, decode cX0_slotAt e.1 = .ok (e.2.1, e.2.2) := by decide +kernel
set_option maxRecDepth 100000 in
theorem dk_X0_save : ∀ e ∈ TX0_save, decode cX0_save e.1 = .ok (e.2.1, e.2.2) := by decide +kernel
set_option maxRecDepth 100000 in
theorem dk_X0_restore : ∀ e ∈ TX0_restore, decode cX0_restore e.1 = .ok (e.2.1, e.2.2) := by decide +kernel
set_option maxRecDepth 100000 in
theorem dk_X1_init : ∀ e ∈ TX1_init, decode cX1_init e.1 = .ok (e.2.1, e.2.2) := by decide +kernel
set_option maxRecDepth 100000 in
theorem dk_X1_at : ∀ e ∈ TX1_at, decode cX1_at e.1 = .ok (e.2.1, e.2.2) := by decide +kernel
set_option maxRecDepth 100000 in
theorem dk_X1_put : ∀ e ∈ TX1_put, decode cX1_put e.1 = .ok (e.2.1, e.2.2) := by decide +kernel
set_option maxRecDepth 100000 in
theorem dk_X1_raise : ∀ e ∈ TX1_raise, decode cX1_raise e.1 = .ok (e.2.1, e.2.2) := by decide +kernel
set_option maxRecDepth 100000 in
theorem dk_X1_sum : ∀ e ∈ TX1_sum, decode cX1_sum e.1 = .ok (e.2.1, e.2.2) := by decide +kernel
set_option maxRecDepth 100000 in
theorem dk_X1_copyFrom : ∀ e ∈ TX1_copyFrom, decode cX1_copyFrom e.1 = .ok (e.2.1, e.2.2) := by decide +kernel
set_option maxRecDepth 100000 in
theorem dk_X2_init_0 : ∀ e ∈ TX2_init_0, decode cX2_init e.1 = .ok (e.2.1, e.2.2) := by decide +kernel
set_option maxRecDepth 100000 in
theorem dk_X2_init_1 : ∀ e ∈ TX2_init_1, decode cX2_init e.1 = .ok (e.2.1, e.2.2) := by decide +kernel
theorem dk_X2_init : ∀ e ∈ TX2_init, decode cX2_init e.1 = .ok (e.2.1, e.2.2) := by
  intro e h
  simp only [TX2_init, List.mem_append] at h
  rcases h with h | h
  · exact dk_X2_init_0 e h
  · exact dk_X2_init_1 e h
set_option maxRecDepth 100000 in
theorem dk_X2_copyFrom_0 : ∀ e ∈ TX2_copyFrom_0, decode cX2_copyFrom e.1 = .ok (e.2.1, e.2.2) := by decide +kernel
set_option maxRecDepth 100000 in
theorem dk_X2_copyFrom_1 : ∀ e ∈ TX2_copyFrom_1, decode cX2_copyFrom e.1 = .ok (e.2.1, e.2.2) := by decide +kernel
theorem dk_X2_copyFrom : ∀ e ∈ TX2_copyFrom, decode cX2_copyFrom e.1 = .ok (e.2.1, e.2.2) := by
  intro e h
  simp only [TX2_copyFrom, List.mem_append] at h
  rcases h with h | h
  · exact dk_X2_copyFrom_0 e h
  · exact dk_X2_copyFrom_1 e h
set_option maxRecDepth 100000 in
theorem dk_X2_isWaiting : ∀ e ∈ TX2_isWaiting, decode cX2_isWaiting e.1 = .ok (e.2.1, e.2.2) := by decide +kernel
set_option maxRecDepth 100000 in
theorem dk_X2_queueLength : ∀ e ∈ TX2_queueLength, decode cX2_queueLength e.1 = .ok (e.2.1, e.2.2) := by decide +kernel
set_option maxRecDepth 100000 in
theorem dk_X2_handAt : ∀ e ∈ TX2_handAt, decode cX2_handAt e.1 = .ok (e.2.1, e.2.2) := by decide +kernel
set_option maxRecDepth 100000 in
theorem dk_X2_enqueue : ∀ e ∈ TX2_enqueue, decode cX2_enqueue e.1 = .ok (e.2.1, e.2.2) := by decide +kernel
set_option maxRecDepth 100000 in
theorem dk_X2_placeForHolder : ∀ e ∈ TX2_placeForHolder, decode cX2_placeForHolder e.1 = .ok (e.2.1, e.2.2) := by decide +kernel
set_option maxRecDepth 100000 in
theorem dk_X2_dequeue : ∀ e ∈ TX2_dequeue, decode cX2_dequeue e.1 = .ok (e.2.1, e.2.2) := by decide +kernel
set_option maxRecDepth 100000 in
theorem dk_X2_clashes : ∀ e ∈ TX2_clashes, decode cX2_clashes e.1 = .ok (e.2.1, e.2.2) := by decide +kernel
set_option maxRecDepth 100000 in
theorem dk_X2_grant : ∀ e ∈ TX2_grant, decode cX2_grant e.1 = .ok (e.2.1, e.2.2) := by decide +kernel
set_option maxRecDepth 100000 in
theorem dk_X2_settle : ∀ e ∈ TX2_settle, decode cX2_settle e.1 = .ok (e.2.1, e.2.2) := by decide +kernel
set_option maxRecDepth 100000 in
theorem dk_X2_direct_0 : ∀ e ∈ TX2_direct_0, decode cX2_direct e.1 = .ok (e.2.1, e.2.2) := by decide +kernel
set_option maxRecDepth 100000 in
theorem dk_X2_direct_1 : ∀ e ∈ TX2_direct_1, decode cX2_direct e.1 = .ok (e.2.1, e.2.2) := by decide +kernel
theorem dk_X2_direct : ∀ e ∈ TX2_direct, decode cX2_direct e.1 = .ok (e.2.1, e.2.2) := by
  intro e h
  simp only [TX2_direct, List.mem_append] at h
  rcases h with h | h
  · exact dk_X2_direct_0 e h
  · exact dk_X2_direct_1 e h
set_option maxRecDepth 100000 in
theorem dk_X2_reach : ∀ e ∈ TX2_reach, decode cX2_reach e.1 = .ok (e.2.1, e.2.2) := by decide +kernel
set_option maxRecDepth 100000 in
theorem dk_X2_loserFor : ∀ e ∈ TX2_loserFor, decode cX2_loserFor e.1 = .ok (e.2.1, e.2.2) := by decide +kernel
set_option maxRecDepth 100000 in
theorem dk_X2_strip : ∀ e ∈ TX2_strip, decode cX2_strip e.1 = .ok (e.2.1, e.2.2) := by decide +kernel
set_option maxRecDepth 100000 in
theorem dk_X2_takeAsking_0 : ∀ e ∈ TX2_takeAsking_0, decode cX2_takeAsking e.1 = .ok (e.2.1, e.2.2) := by decide +kernel
set_option maxRecDepth 100000 in
theorem dk_X2_takeAsking_1 : ∀ e ∈ TX2_takeAsking_1, decode cX2_takeAsking e.1 = .ok (e.2.1, e.2.2) := by decide +kernel
theorem dk_X2_takeAsking : ∀ e ∈ TX2_takeAsking, decode cX2_takeAsking e.1 = .ok (e.2.1, e.2.2) := by
  intro e h
  simp only [TX2_takeAsking, List.mem_append] at h
  rcases h with h | h
  · exact dk_X2_takeAsking_0 e h
  · exact dk_X2_takeAsking_1 e h
set_option maxRecDepth 100000 in
theorem dk_X2_canLetGo : ∀ e ∈ TX2_canLetGo, decode cX2_canLetGo e.1 = .ok (e.2.1, e.2.2) := by decide +kernel
set_option maxRecDepth 100000 in
theorem dk_X2_letGo : ∀ e ∈ TX2_letGo, decode cX2_letGo e.1 = .ok (e.2.1, e.2.2) := by decide +kernel
set_option maxRecDepth 100000 in
theorem dk_X2_stopWaiting : ∀ e ∈ TX2_stopWaiting, decode cX2_stopWaiting e.1 = .ok (e.2.1, e.2.2) := by decide +kernel
set_option maxRecDepth 100000 in
theorem dk_X2_canPassOver : ∀ e ∈ TX2_canPassOver, decode cX2_canPassOver e.1 = .ok (e.2.1, e.2.2) := by decide +kernel
set_option maxRecDepth 100000 in
theorem dk_X2_passOver : ∀ e ∈ TX2_passOver, decode cX2_passOver e.1 = .ok (e.2.1, e.2.2) := by decide +kernel
set_option maxRecDepth 100000 in
theorem dk_X2_takersOf : ∀ e ∈ TX2_takersOf, decode cX2_takersOf e.1 = .ok (e.2.1, e.2.2) := by decide +kernel
set_option maxRecDepth 100000 in
theorem dk_X2_heatAfter : ∀ e ∈ TX2_heatAfter, decode cX2_heatAfter e.1 = .ok (e.2.1, e.2.2) := by decide +kernel
set_option maxRecDepth 100000 in
theorem dk_X2_tick : ∀ e ∈ TX2_tick, decode cX2_tick e.1 = .ok (e.2.1, e.2.2) := by decide +kernel
set_option maxRecDepth 100000 in
theorem dk_X2_burn : ∀ e ∈ TX2_burn, decode cX2_burn e.1 = .ok (e.2.1, e.2.2) := by decide +kernel
set_option maxRecDepth 100000 in
theorem dk_X2_ticksToBurn : ∀ e ∈ TX2_ticksToBurn, decode cX2_ticksToBurn e.1 = .ok (e.2.1, e.2.2) := by decide +kernel
set_option maxRecDepth 100000 in
theorem dk_X2_greatestMode : ∀ e ∈ TX2_greatestMode, decode cX2_greatestMode e.1 = .ok (e.2.1, e.2.2) := by decide +kernel
set_option maxRecDepth 100000 in
theorem dk_X2_holders : ∀ e ∈ TX2_holders, decode cX2_holders e.1 = .ok (e.2.1, e.2.2) := by decide +kernel
set_option maxRecDepth 100000 in
theorem dk_X2_locksOf : ∀ e ∈ TX2_locksOf, decode cX2_locksOf e.1 = .ok (e.2.1, e.2.2) := by decide +kernel
set_option maxRecDepth 100000 in
theorem dk_X2_work : ∀ e ∈ TX2_work, decode cX2_work e.1 = .ok (e.2.1, e.2.2) := by decide +kernel
set_option maxRecDepth 100000 in
theorem dk_X2_lockCount : ∀ e ∈ TX2_lockCount, decode cX2_lockCount e.1 = .ok (e.2.1, e.2.2) := by decide +kernel
set_option maxRecDepth 100000 in
theorem dk_X2_waitingCount : ∀ e ∈ TX2_waitingCount, decode cX2_waitingCount e.1 = .ok (e.2.1, e.2.2) := by decide +kernel
set_option maxRecDepth 100000 in
theorem dk_X2_heldRows : ∀ e ∈ TX2_heldRows, decode cX2_heldRows e.1 = .ok (e.2.1, e.2.2) := by decide +kernel
set_option maxRecDepth 100000 in
theorem dk_X2_handPart : ∀ e ∈ TX2_handPart, decode cX2_handPart e.1 = .ok (e.2.1, e.2.2) := by decide +kernel
set_option maxRecDepth 100000 in
theorem dk_X2_rowPart : ∀ e ∈ TX2_rowPart, decode cX2_rowPart e.1 = .ok (e.2.1, e.2.2) := by decide +kernel
set_option maxRecDepth 100000 in
theorem dk_X2_requestPart : ∀ e ∈ TX2_requestPart, decode cX2_requestPart e.1 = .ok (e.2.1, e.2.2) := by decide +kernel
set_option maxRecDepth 100000 in
theorem dk_X2_total : ∀ e ∈ TX2_total, decode cX2_total e.1 = .ok (e.2.1, e.2.2) := by decide +kernel
set_option maxRecDepth 100000 in
theorem dk_X2_mostWaitedFor : ∀ e ∈ TX2_mostWaitedFor, decode cX2_mostWaitedFor e.1 = .ok (e.2.1, e.2.2) := by decide +kernel
set_option maxRecDepth 100000 in
theorem dk_X2_waitersFor : ∀ e ∈ TX2_waitersFor, decode cX2_waitersFor e.1 = .ok (e.2.1, e.2.2) := by decide +kernel
set_option maxRecDepth 100000 in
theorem dk_X2_shareGranted : ∀ e ∈ TX2_shareGranted, decode cX2_shareGranted e.1 = .ok (e.2.1, e.2.2) := by decide +kernel
set_option maxRecDepth 100000 in
theorem dk_X3_init : ∀ e ∈ TX3_init, decode cX3_init e.1 = .ok (e.2.1, e.2.2) := by decide +kernel
set_option maxRecDepth 100000 in
theorem dk_X3_add : ∀ e ∈ TX3_add, decode cX3_add e.1 = .ok (e.2.1, e.2.2) := by decide +kernel
set_option maxRecDepth 100000 in
theorem dk_X3_empty : ∀ e ∈ TX3_empty, decode cX3_empty e.1 = .ok (e.2.1, e.2.2) := by decide +kernel
set_option maxRecDepth 100000 in
theorem dk_X3_firstFault : ∀ e ∈ TX3_firstFault, decode cX3_firstFault e.1 = .ok (e.2.1, e.2.2) := by decide +kernel
set_option maxRecDepth 100000 in
theorem dk_X3_isComplete : ∀ e ∈ TX3_isComplete, decode cX3_isComplete e.1 = .ok (e.2.1, e.2.2) := by decide +kernel
set_option maxRecDepth 100000 in
theorem dk_X3_dueAfter : ∀ e ∈ TX3_dueAfter, decode cX3_dueAfter e.1 = .ok (e.2.1, e.2.2) := by decide +kernel
set_option maxRecDepth 100000 in
theorem dk_X3_isDigit : ∀ e ∈ TX3_isDigit, decode cX3_isDigit e.1 = .ok (e.2.1, e.2.2) := by decide +kernel
set_option maxRecDepth 100000 in
theorem dk_X3_isDeed : ∀ e ∈ TX3_isDeed, decode cX3_isDeed e.1 = .ok (e.2.1, e.2.2) := by decide +kernel
set_option maxRecDepth 100000 in
theorem dk_X3_deedFrom : ∀ e ∈ TX3_deedFrom, decode cX3_deedFrom e.1 = .ok (e.2.1, e.2.2) := by decide +kernel
set_option maxRecDepth 100000 in
theorem dk_X3_numberBetween : ∀ e ∈ TX3_numberBetween, decode cX3_numberBetween e.1 = .ok (e.2.1, e.2.2) := by decide +kernel
set_option maxRecDepth 100000 in
theorem dk_X4_init : ∀ e ∈ TX4_init, decode cX4_init e.1 = .ok (e.2.1, e.2.2) := by decide +kernel
set_option maxRecDepth 100000 in
theorem dk_X4_ask : ∀ e ∈ TX4_ask, decode cX4_ask e.1 = .ok (e.2.1, e.2.2) := by decide +kernel
set_option maxRecDepth 100000 in
theorem dk_X4_release : ∀ e ∈ TX4_release, decode cX4_release e.1 = .ok (e.2.1, e.2.2) := by decide +kernel
set_option maxRecDepth 100000 in
theorem dk_X4_giveUp : ∀ e ∈ TX4_giveUp, decode cX4_giveUp e.1 = .ok (e.2.1, e.2.2) := by decide +kernel
set_option maxRecDepth 100000 in
theorem dk_X4_handOn : ∀ e ∈ TX4_handOn, decode cX4_handOn e.1 = .ok (e.2.1, e.2.2) := by decide +kernel
set_option maxRecDepth 100000 in
theorem dk_X4_pass : ∀ e ∈ TX4_pass, decode cX4_pass e.1 = .ok (e.2.1, e.2.2) := by decide +kernel
set_option maxRecDepth 100000 in
theorem dk_X4_cool : ∀ e ∈ TX4_cool, decode cX4_cool e.1 = .ok (e.2.1, e.2.2) := by decide +kernel
set_option maxRecDepth 100000 in
theorem dk_X4_set : ∀ e ∈ TX4_set, decode cX4_set e.1 = .ok (e.2.1, e.2.2) := by decide +kernel
set_option maxRecDepth 100000 in
theorem dk_X4_append : ∀ e ∈ TX4_append, decode cX4_append e.1 = .ok (e.2.1, e.2.2) := by decide +kernel
set_option maxRecDepth 100000 in
theorem dk_X4_clearBuffer : ∀ e ∈ TX4_clearBuffer, decode cX4_clearBuffer e.1 = .ok (e.2.1, e.2.2) := by decide +kernel
set_option maxRecDepth 100000 in
theorem dk_X4_firstError : ∀ e ∈ TX4_firstError, decode cX4_firstError e.1 = .ok (e.2.1, e.2.2) := by decide +kernel
set_option maxRecDepth 100000 in
theorem dk_X4_run : ∀ e ∈ TX4_run, decode cX4_run e.1 = .ok (e.2.1, e.2.2) := by decide +kernel
set_option maxRecDepth 100000 in
theorem dk_X4_undo : ∀ e ∈ TX4_undo, decode cX4_undo e.1 = .ok (e.2.1, e.2.2) := by decide +kernel
set_option maxRecDepth 100000 in
theorem dk_X4_lock : ∀ e ∈ TX4_lock, decode cX4_lock e.1 = .ok (e.2.1, e.2.2) := by decide +kernel
set_option maxRecDepth 100000 in
theorem dk_X4_hand : ∀ e ∈ TX4_hand, decode cX4_hand e.1 = .ok (e.2.1, e.2.2) := by decide +kernel
set_option maxRecDepth 100000 in
theorem dk_X4_row : ∀ e ∈ TX4_row, decode cX4_row e.1 = .ok (e.2.1, e.2.2) := by decide +kernel
set_option maxRecDepth 100000 in
theorem dk_X4_request : ∀ e ∈ TX4_request, decode cX4_request e.1 = .ok (e.2.1, e.2.2) := by decide +kernel
set_option maxRecDepth 100000 in
theorem dk_X4_count : ∀ e ∈ TX4_count, decode cX4_count e.1 = .ok (e.2.1, e.2.2) := by decide +kernel
set_option maxRecDepth 100000 in
theorem dk_X4_setting : ∀ e ∈ TX4_setting, decode cX4_setting e.1 = .ok (e.2.1, e.2.2) := by decide +kernel
set_option maxRecDepth 100000 in
theorem dk_X4_ifAsked : ∀ e ∈ TX4_ifAsked, decode cX4_ifAsked e.1 = .ok (e.2.1, e.2.2) := by decide +kernel
set_option maxRecDepth 100000 in
theorem dk_X4_takers : ∀ e ∈ TX4_takers, decode cX4_takers e.1 = .ok (e.2.1, e.2.2) := by decide +kernel
set_option maxRecDepth 100000 in
theorem dk_X4_burnsIn : ∀ e ∈ TX4_burnsIn, decode cX4_burnsIn e.1 = .ok (e.2.1, e.2.2) := by decide +kernel
set_option maxRecDepth 100000 in
theorem dk_X4_waitsFor : ∀ e ∈ TX4_waitsFor, decode cX4_waitsFor e.1 = .ok (e.2.1, e.2.2) := by decide +kernel
set_option maxRecDepth 100000 in
theorem dk_X4_busiest : ∀ e ∈ TX4_busiest, decode cX4_busiest e.1 = .ok (e.2.1, e.2.2) := by decide +kernel
set_option maxRecDepth 100000 in
theorem dk_X4_grantedShare : ∀ e ∈ TX4_grantedShare, decode cX4_grantedShare e.1 = .ok (e.2.1, e.2.2) := by decide +kernel
set_option maxRecDepth 100000 in
theorem dk_X4_digest_0 : ∀ e ∈ TX4_digest_0, decode cX4_digest e.1 = .ok (e.2.1, e.2.2) := by decide +kernel
set_option maxRecDepth 100000 in
theorem dk_X4_digest_1 : ∀ e ∈ TX4_digest_1, decode cX4_digest e.1 = .ok (e.2.1, e.2.2) := by decide +kernel
theorem dk_X4_digest : ∀ e ∈ TX4_digest, decode cX4_digest e.1 = .ok (e.2.1, e.2.2) := by
  intro e h
  simp only [TX4_digest, List.mem_append] at h
  rcases h with h | h
  · exact dk_X4_digest_0 e h
  · exact dk_X4_digest_1 e h
set_option maxRecDepth 100000 in
theorem dk_X4_isHand : ∀ e ∈ TX4_isHand, decode cX4_isHand e.1 = .ok (e.2.1, e.2.2) := by decide +kernel
set_option maxRecDepth 100000 in
theorem dk_X4_isRow : ∀ e ∈ TX4_isRow, decode cX4_isRow e.1 = .ok (e.2.1, e.2.2) := by decide +kernel
set_option maxRecDepth 100000 in
theorem dk_X4_isMode : ∀ e ∈ TX4_isMode, decode cX4_isMode e.1 = .ok (e.2.1, e.2.2) := by decide +kernel
set_option maxRecDepth 100000 in
theorem dk_X4_isSetting : ∀ e ∈ TX4_isSetting, decode cX4_isSetting e.1 = .ok (e.2.1, e.2.2) := by decide +kernel
set_option maxRecDepth 100000 in
theorem dk_X4_leastValue : ∀ e ∈ TX4_leastValue, decode cX4_leastValue e.1 = .ok (e.2.1, e.2.2) := by decide +kernel
set_option maxRecDepth 100000 in
theorem dk_X4_greatestValue : ∀ e ∈ TX4_greatestValue, decode cX4_greatestValue e.1 = .ok (e.2.1, e.2.2) := by decide +kernel
set_option maxRecDepth 100000 in
theorem dk_X4_cell : ∀ e ∈ TX4_cell, decode cX4_cell e.1 = .ok (e.2.1, e.2.2) := by decide +kernel
set_option maxRecDepth 100000 in
theorem dk_X4_has : ∀ e ∈ TX4_has, decode cX4_has e.1 = .ok (e.2.1, e.2.2) := by decide +kernel
set_option maxRecDepth 100000 in
theorem dk_X4_carryOut : ∀ e ∈ TX4_carryOut, decode cX4_carryOut e.1 = .ok (e.2.1, e.2.2) := by decide +kernel
set_option maxRecDepth 100000 in
theorem dk_X4_modeOf : ∀ e ∈ TX4_modeOf, decode cX4_modeOf e.1 = .ok (e.2.1, e.2.2) := by decide +kernel
set_option maxRecDepth 100000 in
theorem dk_X4_numberOf : ∀ e ∈ TX4_numberOf, decode cX4_numberOf e.1 = .ok (e.2.1, e.2.2) := by decide +kernel
set_option maxRecDepth 100000 in
theorem dk_X4_tryAsking : ∀ e ∈ TX4_tryAsking, decode cX4_tryAsking e.1 = .ok (e.2.1, e.2.2) := by decide +kernel
set_option maxRecDepth 100000 in
theorem dk_X4_trialPart : ∀ e ∈ TX4_trialPart, decode cX4_trialPart e.1 = .ok (e.2.1, e.2.2) := by decide +kernel
set_option maxRecDepth 100000 in
theorem dk_X4_mix : ∀ e ∈ TX4_mix, decode cX4_mix e.1 = .ok (e.2.1, e.2.2) := by decide +kernel
set_option maxRecDepth 100000 in
theorem dk_X4_mixHand : ∀ e ∈ TX4_mixHand, decode cX4_mixHand e.1 = .ok (e.2.1, e.2.2) := by decide +kernel
set_option maxRecDepth 100000 in
theorem dk_X4_mixRow_0 : ∀ e ∈ TX4_mixRow_0, decode cX4_mixRow e.1 = .ok (e.2.1, e.2.2) := by decide +kernel
set_option maxRecDepth 100000 in
theorem dk_X4_mixRow_1 : ∀ e ∈ TX4_mixRow_1, decode cX4_mixRow e.1 = .ok (e.2.1, e.2.2) := by decide +kernel
theorem dk_X4_mixRow : ∀ e ∈ TX4_mixRow, decode cX4_mixRow e.1 = .ok (e.2.1, e.2.2) := by
  intro e h
  simp only [TX4_mixRow, List.mem_append] at h
  rcases h with h | h
  · exact dk_X4_mixRow_0 e h
  · exact dk_X4_mixRow_1 e h
set_option maxRecDepth 100000 in
theorem dk_X4_bitsOfShare : ∀ e ∈ TX4_bitsOfShare, decode cX4_bitsOfShare e.1 = .ok (e.2.1, e.2.2) := by decide +kernel
set_option maxRecDepth 100000 in
theorem dk_X5_init : ∀ e ∈ TX5_init, decode cX5_init e.1 = .ok (e.2.1, e.2.2) := by decide +kernel
set_option maxRecDepth 100000 in
theorem dk_X5_thrown : ∀ e ∈ TX5_thrown, decode cX5_thrown e.1 = .ok (e.2.1, e.2.2) := by decide +kernel
set_option maxRecDepth 100000 in
theorem dk_X5_within : ∀ e ∈ TX5_within, decode cX5_within e.1 = .ok (e.2.1, e.2.2) := by decide +kernel
set_option maxRecDepth 100000 in
theorem dk_X5_save : ∀ e ∈ TX5_save, decode cX5_save e.1 = .ok (e.2.1, e.2.2) := by decide +kernel
set_option maxRecDepth 100000 in
theorem dk_X5_isHand : ∀ e ∈ TX5_isHand, decode cX5_isHand e.1 = .ok (e.2.1, e.2.2) := by decide +kernel
set_option maxRecDepth 100000 in
theorem dk_X5_isRow : ∀ e ∈ TX5_isRow, decode cX5_isRow e.1 = .ok (e.2.1, e.2.2) := by decide +kernel
set_option maxRecDepth 100000 in
theorem dk_X5_areThere : ∀ e ∈ TX5_areThere, decode cX5_areThere e.1 = .ok (e.2.1, e.2.2) := by decide +kernel
set_option maxRecDepth 100000 in
theorem dk_X5_lockOf : ∀ e ∈ TX5_lockOf, decode cX5_lockOf e.1 = .ok (e.2.1, e.2.2) := by decide +kernel
set_option maxRecDepth 100000 in
theorem dk_X5_setLock : ∀ e ∈ TX5_setLock, decode cX5_setLock e.1 = .ok (e.2.1, e.2.2) := by decide +kernel
set_option maxRecDepth 100000 in
theorem dk_X5_whoAt : ∀ e ∈ TX5_whoAt, decode cX5_whoAt e.1 = .ok (e.2.1, e.2.2) := by decide +kernel
set_option maxRecDepth 100000 in
theorem dk_X5_modeAt : ∀ e ∈ TX5_modeAt, decode cX5_modeAt e.1 = .ok (e.2.1, e.2.2) := by decide +kernel
set_option maxRecDepth 100000 in
theorem dk_X5_placeIn : ∀ e ∈ TX5_placeIn, decode cX5_placeIn e.1 = .ok (e.2.1, e.2.2) := by decide +kernel
set_option maxRecDepth 100000 in
theorem dk_X5_rowOf : ∀ e ∈ TX5_rowOf, decode cX5_rowOf e.1 = .ok (e.2.1, e.2.2) := by decide +kernel
set_option maxRecDepth 100000 in
theorem dk_X5_waits : ∀ e ∈ TX5_waits, decode cX5_waits e.1 = .ok (e.2.1, e.2.2) := by decide +kernel
set_option maxRecDepth 100000 in
theorem dk_X5_workOf : ∀ e ∈ TX5_workOf, decode cX5_workOf e.1 = .ok (e.2.1, e.2.2) := by decide +kernel
set_option maxRecDepth 100000 in
theorem dk_X5_holders : ∀ e ∈ TX5_holders, decode cX5_holders e.1 = .ok (e.2.1, e.2.2) := by decide +kernel
set_option maxRecDepth 100000 in
theorem dk_X5_greatestOf : ∀ e ∈ TX5_greatestOf, decode cX5_greatestOf e.1 = .ok (e.2.1, e.2.2) := by decide +kernel
set_option maxRecDepth 100000 in
theorem dk_X5_clashing : ∀ e ∈ TX5_clashing, decode cX5_clashing e.1 = .ok (e.2.1, e.2.2) := by decide +kernel
set_option maxRecDepth 100000 in
theorem dk_X5_waitsNow : ∀ e ∈ TX5_waitsNow, decode cX5_waitsNow e.1 = .ok (e.2.1, e.2.2) := by decide +kernel
set_option maxRecDepth 100000 in
theorem dk_X5_waitsOver : ∀ e ∈ TX5_waitsOver, decode cX5_waitsOver e.1 = .ok (e.2.1, e.2.2) := by decide +kernel
set_option maxRecDepth 100000 in
theorem dk_X5_unqueue : ∀ e ∈ TX5_unqueue, decode cX5_unqueue e.1 = .ok (e.2.1, e.2.2) := by decide +kernel
set_option maxRecDepth 100000 in
theorem dk_X5_enqueue_0 : ∀ e ∈ TX5_enqueue_0, decode cX5_enqueue e.1 = .ok (e.2.1, e.2.2) := by decide +kernel
set_option maxRecDepth 100000 in
theorem dk_X5_enqueue_1 : ∀ e ∈ TX5_enqueue_1, decode cX5_enqueue e.1 = .ok (e.2.1, e.2.2) := by decide +kernel
theorem dk_X5_enqueue : ∀ e ∈ TX5_enqueue, decode cX5_enqueue e.1 = .ok (e.2.1, e.2.2) := by
  intro e h
  simp only [TX5_enqueue, List.mem_append] at h
  rcases h with h | h
  · exact dk_X5_enqueue_0 e h
  · exact dk_X5_enqueue_1 e h
set_option maxRecDepth 100000 in
theorem dk_X5_grant : ∀ e ∈ TX5_grant, decode cX5_grant e.1 = .ok (e.2.1, e.2.2) := by decide +kernel
set_option maxRecDepth 100000 in
theorem dk_X5_settle : ∀ e ∈ TX5_settle, decode cX5_settle e.1 = .ok (e.2.1, e.2.2) := by decide +kernel
set_option maxRecDepth 100000 in
theorem dk_X5_isInRing : ∀ e ∈ TX5_isInRing, decode cX5_isInRing e.1 = .ok (e.2.1, e.2.2) := by decide +kernel
set_option maxRecDepth 100000 in
theorem dk_X5_loserFor : ∀ e ∈ TX5_loserFor, decode cX5_loserFor e.1 = .ok (e.2.1, e.2.2) := by decide +kernel
set_option maxRecDepth 100000 in
theorem dk_X5_lose_0 : ∀ e ∈ TX5_lose_0, decode cX5_lose e.1 = .ok (e.2.1, e.2.2) := by decide +kernel
set_option maxRecDepth 100000 in
theorem dk_X5_lose_1 : ∀ e ∈ TX5_lose_1, decode cX5_lose e.1 = .ok (e.2.1, e.2.2) := by decide +kernel
theorem dk_X5_lose : ∀ e ∈ TX5_lose, decode cX5_lose e.1 = .ok (e.2.1, e.2.2) := by
  intro e h
  simp only [TX5_lose, List.mem_append] at h
  rcases h with h | h
  · exact dk_X5_lose_0 e h
  · exact dk_X5_lose_1 e h
set_option maxRecDepth 100000 in
theorem dk_X5_asks_0 : ∀ e ∈ TX5_asks_0, decode cX5_asks e.1 = .ok (e.2.1, e.2.2) := by decide +kernel
set_option maxRecDepth 100000 in
theorem dk_X5_asks_1 : ∀ e ∈ TX5_asks_1, decode cX5_asks e.1 = .ok (e.2.1, e.2.2) := by decide +kernel
theorem dk_X5_asks : ∀ e ∈ TX5_asks, decode cX5_asks e.1 = .ok (e.2.1, e.2.2) := by
  intro e h
  simp only [TX5_asks, List.mem_append] at h
  rcases h with h | h
  · exact dk_X5_asks_0 e h
  · exact dk_X5_asks_1 e h
set_option maxRecDepth 100000 in
theorem dk_X5_isMode : ∀ e ∈ TX5_isMode, decode cX5_isMode e.1 = .ok (e.2.1, e.2.2) := by decide +kernel
set_option maxRecDepth 100000 in
theorem dk_X5_ask : ∀ e ∈ TX5_ask, decode cX5_ask e.1 = .ok (e.2.1, e.2.2) := by decide +kernel
set_option maxRecDepth 100000 in
theorem dk_X5_canRelease : ∀ e ∈ TX5_canRelease, decode cX5_canRelease e.1 = .ok (e.2.1, e.2.2) := by decide +kernel
set_option maxRecDepth 100000 in
theorem dk_X5_releases : ∀ e ∈ TX5_releases, decode cX5_releases e.1 = .ok (e.2.1, e.2.2) := by decide +kernel
set_option maxRecDepth 100000 in
theorem dk_X5_release : ∀ e ∈ TX5_release, decode cX5_release e.1 = .ok (e.2.1, e.2.2) := by decide +kernel
set_option maxRecDepth 100000 in
theorem dk_X5_giveUp : ∀ e ∈ TX5_giveUp, decode cX5_giveUp e.1 = .ok (e.2.1, e.2.2) := by decide +kernel
set_option maxRecDepth 100000 in
theorem dk_X5_canHandOn : ∀ e ∈ TX5_canHandOn, decode cX5_canHandOn e.1 = .ok (e.2.1, e.2.2) := by decide +kernel
set_option maxRecDepth 100000 in
theorem dk_X5_handOn : ∀ e ∈ TX5_handOn, decode cX5_handOn e.1 = .ok (e.2.1, e.2.2) := by decide +kernel
set_option maxRecDepth 100000 in
theorem dk_X5_burn : ∀ e ∈ TX5_burn, decode cX5_burn e.1 = .ok (e.2.1, e.2.2) := by decide +kernel
set_option maxRecDepth 100000 in
theorem dk_X5_tick_0 : ∀ e ∈ TX5_tick_0, decode cX5_tick e.1 = .ok (e.2.1, e.2.2) := by decide +kernel
set_option maxRecDepth 100000 in
theorem dk_X5_tick_1 : ∀ e ∈ TX5_tick_1, decode cX5_tick e.1 = .ok (e.2.1, e.2.2) := by decide +kernel
theorem dk_X5_tick : ∀ e ∈ TX5_tick, decode cX5_tick e.1 = .ok (e.2.1, e.2.2) := by
  intro e h
  simp only [TX5_tick, List.mem_append] at h
  rcases h with h | h
  · exact dk_X5_tick_0 e h
  · exact dk_X5_tick_1 e h
set_option maxRecDepth 100000 in
theorem dk_X5_pass : ∀ e ∈ TX5_pass, decode cX5_pass e.1 = .ok (e.2.1, e.2.2) := by decide +kernel
set_option maxRecDepth 100000 in
theorem dk_X5_cool : ∀ e ∈ TX5_cool, decode cX5_cool e.1 = .ok (e.2.1, e.2.2) := by decide +kernel
set_option maxRecDepth 100000 in
theorem dk_X5_isSetting : ∀ e ∈ TX5_isSetting, decode cX5_isSetting e.1 = .ok (e.2.1, e.2.2) := by decide +kernel
set_option maxRecDepth 100000 in
theorem dk_X5_isValue : ∀ e ∈ TX5_isValue, decode cX5_isValue e.1 = .ok (e.2.1, e.2.2) := by decide +kernel
set_option maxRecDepth 100000 in
theorem dk_X5_set : ∀ e ∈ TX5_set, decode cX5_set e.1 = .ok (e.2.1, e.2.2) := by decide +kernel
set_option maxRecDepth 100000 in
theorem dk_X5_append : ∀ e ∈ TX5_append, decode cX5_append e.1 = .ok (e.2.1, e.2.2) := by decide +kernel
set_option maxRecDepth 100000 in
theorem dk_X5_clearBuffer : ∀ e ∈ TX5_clearBuffer, decode cX5_clearBuffer e.1 = .ok (e.2.1, e.2.2) := by decide +kernel
set_option maxRecDepth 100000 in
theorem dk_X5_modeOf : ∀ e ∈ TX5_modeOf, decode cX5_modeOf e.1 = .ok (e.2.1, e.2.2) := by decide +kernel
set_option maxRecDepth 100000 in
theorem dk_X5_takesDigit : ∀ e ∈ TX5_takesDigit, decode cX5_takesDigit e.1 = .ok (e.2.1, e.2.2) := by decide +kernel
set_option maxRecDepth 100000 in
theorem dk_X5_takes_0 : ∀ e ∈ TX5_takes_0, decode cX5_takes e.1 = .ok (e.2.1, e.2.2) := by decide +kernel
set_option maxRecDepth 100000 in
theorem dk_X5_takes_1 : ∀ e ∈ TX5_takes_1, decode cX5_takes e.1 = .ok (e.2.1, e.2.2) := by decide +kernel
theorem dk_X5_takes : ∀ e ∈ TX5_takes, decode cX5_takes e.1 = .ok (e.2.1, e.2.2) := by
  intro e h
  simp only [TX5_takes, List.mem_append] at h
  rcases h with h | h
  · exact dk_X5_takes_0 e h
  · exact dk_X5_takes_1 e h
set_option maxRecDepth 100000 in
theorem dk_X5_rightUpTo : ∀ e ∈ TX5_rightUpTo, decode cX5_rightUpTo e.1 = .ok (e.2.1, e.2.2) := by decide +kernel
set_option maxRecDepth 100000 in
theorem dk_X5_firstError : ∀ e ∈ TX5_firstError, decode cX5_firstError e.1 = .ok (e.2.1, e.2.2) := by decide +kernel
set_option maxRecDepth 100000 in
theorem dk_X5_carries : ∀ e ∈ TX5_carries, decode cX5_carries e.1 = .ok (e.2.1, e.2.2) := by decide +kernel
set_option maxRecDepth 100000 in
theorem dk_X5_run : ∀ e ∈ TX5_run, decode cX5_run e.1 = .ok (e.2.1, e.2.2) := by decide +kernel
set_option maxRecDepth 100000 in
theorem dk_X5_undo : ∀ e ∈ TX5_undo, decode cX5_undo e.1 = .ok (e.2.1, e.2.2) := by decide +kernel
set_option maxRecDepth 100000 in
theorem dk_X5_lock : ∀ e ∈ TX5_lock, decode cX5_lock e.1 = .ok (e.2.1, e.2.2) := by decide +kernel
set_option maxRecDepth 100000 in
theorem dk_X5_locksOf : ∀ e ∈ TX5_locksOf, decode cX5_locksOf e.1 = .ok (e.2.1, e.2.2) := by decide +kernel
set_option maxRecDepth 100000 in
theorem dk_X5_handNow : ∀ e ∈ TX5_handNow, decode cX5_handNow e.1 = .ok (e.2.1, e.2.2) := by decide +kernel
set_option maxRecDepth 100000 in
theorem dk_X5_hand : ∀ e ∈ TX5_hand, decode cX5_hand e.1 = .ok (e.2.1, e.2.2) := by decide +kernel
set_option maxRecDepth 100000 in
theorem dk_X5_rowNow : ∀ e ∈ TX5_rowNow, decode cX5_rowNow e.1 = .ok (e.2.1, e.2.2) := by decide +kernel
set_option maxRecDepth 100000 in
theorem dk_X5_row : ∀ e ∈ TX5_row, decode cX5_row e.1 = .ok (e.2.1, e.2.2) := by decide +kernel
set_option maxRecDepth 100000 in
theorem dk_X5_requestNow : ∀ e ∈ TX5_requestNow, decode cX5_requestNow e.1 = .ok (e.2.1, e.2.2) := by decide +kernel
set_option maxRecDepth 100000 in
theorem dk_X5_request : ∀ e ∈ TX5_request, decode cX5_request e.1 = .ok (e.2.1, e.2.2) := by decide +kernel
set_option maxRecDepth 100000 in
theorem dk_X5_sumFrom : ∀ e ∈ TX5_sumFrom, decode cX5_sumFrom e.1 = .ok (e.2.1, e.2.2) := by decide +kernel
set_option maxRecDepth 100000 in
theorem dk_X5_allLocks : ∀ e ∈ TX5_allLocks, decode cX5_allLocks e.1 = .ok (e.2.1, e.2.2) := by decide +kernel
set_option maxRecDepth 100000 in
theorem dk_X5_heldRows : ∀ e ∈ TX5_heldRows, decode cX5_heldRows e.1 = .ok (e.2.1, e.2.2) := by decide +kernel
set_option maxRecDepth 100000 in
theorem dk_X5_counted : ∀ e ∈ TX5_counted, decode cX5_counted e.1 = .ok (e.2.1, e.2.2) := by decide +kernel
set_option maxRecDepth 100000 in
theorem dk_X5_count : ∀ e ∈ TX5_count, decode cX5_count e.1 = .ok (e.2.1, e.2.2) := by decide +kernel
set_option maxRecDepth 100000 in
theorem dk_X5_setting : ∀ e ∈ TX5_setting, decode cX5_setting e.1 = .ok (e.2.1, e.2.2) := by decide +kernel
set_option maxRecDepth 100000 in
theorem dk_X5_keep : ∀ e ∈ TX5_keep, decode cX5_keep e.1 = .ok (e.2.1, e.2.2) := by decide +kernel
set_option maxRecDepth 100000 in
theorem dk_X5_layBack : ∀ e ∈ TX5_layBack, decode cX5_layBack e.1 = .ok (e.2.1, e.2.2) := by decide +kernel
set_option maxRecDepth 100000 in
theorem dk_X5_askedThen : ∀ e ∈ TX5_askedThen, decode cX5_askedThen e.1 = .ok (e.2.1, e.2.2) := by decide +kernel
set_option maxRecDepth 100000 in
theorem dk_X5_ifAsked : ∀ e ∈ TX5_ifAsked, decode cX5_ifAsked e.1 = .ok (e.2.1, e.2.2) := by decide +kernel
set_option maxRecDepth 100000 in
theorem dk_X5_takersNow : ∀ e ∈ TX5_takersNow, decode cX5_takersNow e.1 = .ok (e.2.1, e.2.2) := by decide +kernel
set_option maxRecDepth 100000 in
theorem dk_X5_takers : ∀ e ∈ TX5_takers, decode cX5_takers e.1 = .ok (e.2.1, e.2.2) := by decide +kernel
set_option maxRecDepth 100000 in
theorem dk_X5_burnsNow : ∀ e ∈ TX5_burnsNow, decode cX5_burnsNow e.1 = .ok (e.2.1, e.2.2) := by decide +kernel
set_option maxRecDepth 100000 in
theorem dk_X5_burnsIn : ∀ e ∈ TX5_burnsIn, decode cX5_burnsIn e.1 = .ok (e.2.1, e.2.2) := by decide +kernel
set_option maxRecDepth 100000 in
theorem dk_X5_waitsFor : ∀ e ∈ TX5_waitsFor, decode cX5_waitsFor e.1 = .ok (e.2.1, e.2.2) := by decide +kernel
set_option maxRecDepth 100000 in
theorem dk_X5_busiestNow : ∀ e ∈ TX5_busiestNow, decode cX5_busiestNow e.1 = .ok (e.2.1, e.2.2) := by decide +kernel
set_option maxRecDepth 100000 in
theorem dk_X5_busiest : ∀ e ∈ TX5_busiest, decode cX5_busiest e.1 = .ok (e.2.1, e.2.2) := by decide +kernel
set_option maxRecDepth 100000 in
theorem dk_X5_share : ∀ e ∈ TX5_share, decode cX5_share e.1 = .ok (e.2.1, e.2.2) := by decide +kernel
set_option maxRecDepth 100000 in
theorem dk_X5_grantedShare : ∀ e ∈ TX5_grantedShare, decode cX5_grantedShare e.1 = .ok (e.2.1, e.2.2) := by decide +kernel
set_option maxRecDepth 100000 in
theorem dk_X5_mix : ∀ e ∈ TX5_mix, decode cX5_mix e.1 = .ok (e.2.1, e.2.2) := by decide +kernel
set_option maxRecDepth 100000 in
theorem dk_X5_mixHand : ∀ e ∈ TX5_mixHand, decode cX5_mixHand e.1 = .ok (e.2.1, e.2.2) := by decide +kernel
set_option maxRecDepth 100000 in
theorem dk_X5_mixRow_0 : ∀ e ∈ TX5_mixRow_0, decode cX5_mixRow e.1 = .ok (e.2.1, e.2.2) := by decide +kernel
set_option maxRecDepth 100000 in
theorem dk_X5_mixRow_1 : ∀ e ∈ TX5_mixRow_1, decode cX5_mixRow e.1 = .ok (e.2.1, e.2.2) := by decide +kernel
theorem dk_X5_mixRow : ∀ e ∈ TX5_mixRow, decode cX5_mixRow e.1 = .ok (e.2.1, e.2.2) := by
  intro e h
  simp only [TX5_mixRow, List.mem_append] at h
  rcases h with h | h
  · exact dk_X5_mixRow_0 e h
  · exact dk_X5_mixRow_1 e h
set_option maxRecDepth 100000 in
theorem dk_X5_digest_0 : ∀ e ∈ TX5_digest_0, decode cX5_digest e.1 = .ok (e.2.1, e.2.2) := by decide +kernel
set_option maxRecDepth 100000 in
theorem dk_X5_digest_1 : ∀ e ∈ TX5_digest_1, decode cX5_digest e.1 = .ok (e.2.1, e.2.2) := by decide +kernel
theorem dk_X5_digest : ∀ e ∈ TX5_digest, decode cX5_digest e.1 = .ok (e.2.1, e.2.2) := by
  intro e h
  simp only [TX5_digest, List.mem_append] at h
  rcases h with h | h
  · exact dk_X5_digest_0 e h
  · exact dk_X5_digest_1 e h
set_option maxRecDepth 100000 in
theorem dk_Jxe99ae_isNaN_b9ae7 : ∀ e ∈ TJxe99ae_isNaN_b9ae7, decode cJxe99ae_isNaN_b9ae7 e.1 = .ok (e.2.1, e.2.2) := by decide +kernel
set_option maxRecDepth 100000 in
theorem dk_Jxe99ae_doubleToLongBits_ccdee : ∀ e ∈ TJxe99ae_doubleToLongBits_ccdee, decode cJxe99ae_doubleToLongBits_ccdee e.1 = .ok (e.2.1, e.2.2) := by decide +kernel
set_option maxRecDepth 100000 in
theorem dk_J9_max_7cf53 : ∀ e ∈ TJ9_max_7cf53, decode cJ9_max_7cf53 e.1 = .ok (e.2.1, e.2.2) := by decide +kernel
set_option maxRecDepth 100000 in
theorem dk_J9_min_7cf53 : ∀ e ∈ TJ9_min_7cf53, decode cJ9_min_7cf53 e.1 = .ok (e.2.1, e.2.2) := by decide +kernel
set_option maxRecDepth 100000 in
theorem dk_L_ask : ∀ e ∈ TL_ask, decode cL_ask e.1 = .ok (e.2.1, e.2.2) := by decide +kernel
set_option maxRecDepth 100000 in
theorem dk_L_release : ∀ e ∈ TL_release, decode cL_release e.1 = .ok (e.2.1, e.2.2) := by decide +kernel
set_option maxRecDepth 100000 in
theorem dk_L_giveUp : ∀ e ∈ TL_giveUp, decode cL_giveUp e.1 = .ok (e.2.1, e.2.2) := by decide +kernel
set_option maxRecDepth 100000 in
theorem dk_L_handOn : ∀ e ∈ TL_handOn, decode cL_handOn e.1 = .ok (e.2.1, e.2.2) := by decide +kernel
set_option maxRecDepth 100000 in
theorem dk_L_pass : ∀ e ∈ TL_pass, decode cL_pass e.1 = .ok (e.2.1, e.2.2) := by decide +kernel
set_option maxRecDepth 100000 in
theorem dk_L_cool : ∀ e ∈ TL_cool, decode cL_cool e.1 = .ok (e.2.1, e.2.2) := by decide +kernel
set_option maxRecDepth 100000 in
theorem dk_L_set : ∀ e ∈ TL_set, decode cL_set e.1 = .ok (e.2.1, e.2.2) := by decide +kernel
set_option maxRecDepth 100000 in
theorem dk_L_append : ∀ e ∈ TL_append, decode cL_append e.1 = .ok (e.2.1, e.2.2) := by decide +kernel
set_option maxRecDepth 100000 in
theorem dk_L_run : ∀ e ∈ TL_run, decode cL_run e.1 = .ok (e.2.1, e.2.2) := by decide +kernel
set_option maxRecDepth 100000 in
theorem dk_L_undo : ∀ e ∈ TL_undo, decode cL_undo e.1 = .ok (e.2.1, e.2.2) := by decide +kernel
set_option maxRecDepth 100000 in
theorem dk_L_lock : ∀ e ∈ TL_lock, decode cL_lock e.1 = .ok (e.2.1, e.2.2) := by decide +kernel
set_option maxRecDepth 100000 in
theorem dk_L_hand : ∀ e ∈ TL_hand, decode cL_hand e.1 = .ok (e.2.1, e.2.2) := by decide +kernel
set_option maxRecDepth 100000 in
theorem dk_L_row : ∀ e ∈ TL_row, decode cL_row e.1 = .ok (e.2.1, e.2.2) := by decide +kernel
set_option maxRecDepth 100000 in
theorem dk_L_request : ∀ e ∈ TL_request, decode cL_request e.1 = .ok (e.2.1, e.2.2) := by decide +kernel
set_option maxRecDepth 100000 in
theorem dk_L_count : ∀ e ∈ TL_count, decode cL_count e.1 = .ok (e.2.1, e.2.2) := by decide +kernel
set_option maxRecDepth 100000 in
theorem dk_L_setting : ∀ e ∈ TL_setting, decode cL_setting e.1 = .ok (e.2.1, e.2.2) := by decide +kernel
set_option maxRecDepth 100000 in
theorem dk_L_ifAsked : ∀ e ∈ TL_ifAsked, decode cL_ifAsked e.1 = .ok (e.2.1, e.2.2) := by decide +kernel
set_option maxRecDepth 100000 in
theorem dk_L_takers : ∀ e ∈ TL_takers, decode cL_takers e.1 = .ok (e.2.1, e.2.2) := by decide +kernel
set_option maxRecDepth 100000 in
theorem dk_L_burnsIn : ∀ e ∈ TL_burnsIn, decode cL_burnsIn e.1 = .ok (e.2.1, e.2.2) := by decide +kernel
set_option maxRecDepth 100000 in
theorem dk_L_waitsFor : ∀ e ∈ TL_waitsFor, decode cL_waitsFor e.1 = .ok (e.2.1, e.2.2) := by decide +kernel
set_option maxRecDepth 100000 in
theorem dk_L_law_0 : ∀ e ∈ TL_law_0, decode cL_law e.1 = .ok (e.2.1, e.2.2) := by decide +kernel
set_option maxRecDepth 100000 in
theorem dk_L_law_1 : ∀ e ∈ TL_law_1, decode cL_law e.1 = .ok (e.2.1, e.2.2) := by decide +kernel
set_option maxRecDepth 100000 in
theorem dk_L_law_2 : ∀ e ∈ TL_law_2, decode cL_law e.1 = .ok (e.2.1, e.2.2) := by decide +kernel
set_option maxRecDepth 100000 in
theorem dk_L_law_3 : ∀ e ∈ TL_law_3, decode cL_law e.1 = .ok (e.2.1, e.2.2) := by decide +kernel
set_option maxRecDepth 100000 in
theorem dk_L_law_4 : ∀ e ∈ TL_law_4, decode cL_law e.1 = .ok (e.2.1, e.2.2) := by decide +kernel
set_option maxRecDepth 100000 in
theorem dk_L_law_5 : ∀ e ∈ TL_law_5, decode cL_law e.1 = .ok (e.2.1, e.2.2) := by decide +kernel
set_option maxRecDepth 100000 in
theorem dk_L_law_6 : ∀ e ∈ TL_law_6, decode cL_law e.1 = .ok (e.2.1, e.2.2) := by decide +kernel
set_option maxRecDepth 100000 in
theorem dk_L_law_7 : ∀ e ∈ TL_law_7, decode cL_law e.1 = .ok (e.2.1, e.2.2) := by decide +kernel
set_option maxRecDepth 100000 in
theorem dk_L_law_8 : ∀ e ∈ TL_law_8, decode cL_law e.1 = .ok (e.2.1, e.2.2) := by decide +kernel
set_option maxRecDepth 100000 in
theorem dk_L_law_9 : ∀ e ∈ TL_law_9, decode cL_law e.1 = .ok (e.2.1, e.2.2) := by decide +kernel
set_option maxRecDepth 100000 in
theorem dk_L_law_10 : ∀ e ∈ TL_law_10, decode cL_law e.1 = .ok (e.2.1, e.2.2) := by decide +kernel
set_option maxRecDepth 100000 in
theorem dk_L_law_11 : ∀ e ∈ TL_law_11, decode cL_law e.1 = .ok (e.2.1, e.2.2) := by decide +kernel
set_option maxRecDepth 100000 in
theorem dk_L_law_12 : ∀ e ∈ TL_law_12, decode cL_law e.1 = .ok (e.2.1, e.2.2) := by decide +kernel
set_option maxRecDepth 100000 in
theorem dk_L_law_13 : ∀ e ∈ TL_law_13, decode cL_law e.1 = .ok (e.2.1, e.2.2) := by decide +kernel
set_option maxRecDepth 100000 in
theorem dk_L_law_14 : ∀ e ∈ TL_law_14, decode cL_law e.1 = .ok (e.2.1, e.2.2) := by decide +kernel
set_option maxRecDepth 100000 in
theorem dk_L_law_15 : ∀ e ∈ TL_law_15, decode cL_law e.1 = .ok (e.2.1, e.2.2) := by decide +kernel
theorem dk_L_law : ∀ e ∈ TL_law, decode cL_law e.1 = .ok (e.2.1, e.2.2) := by
  intro e h
  simp only [TL_law, List.mem_append] at h
  rcases h with ((((((((((((((h | h) | h) | h) | h) | h) | h) | h) | h) | h) | h) | h) | h) | h) | h) | h
  · exact dk_L_law_0 e h
  · exact dk_L_law_1 e h
  · exact dk_L_law_2 e h
  · exact dk_L_law_3 e h
  · exact dk_L_law_4 e h
  · exact dk_L_law_5 e h
  · exact dk_L_law_6 e h
  · exact dk_L_law_7 e h
  · exact dk_L_law_8 e h
  · exact dk_L_law_9 e h
  · exact dk_L_law_10 e h
  · exact dk_L_law_11 e h
  · exact dk_L_law_12 e h
  · exact dk_L_law_13 e h
  · exact dk_L_law_14 e h
  · exact dk_L_law_15 e h
