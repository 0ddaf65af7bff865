/-! The tables are right: each row, each method (132 to 190). -/
set_option maxRecDepth 100000 in
theorem zk_We_stack : zx_We_stack.2.2.2.2.2.all (fun e => zokE zT 297 zx_We_stack e) = true := by decide +kernel
theorem zy_We_stack : zokX zx_We_stack = true := by decide +kernel
set_option maxRecDepth 100000 in
theorem zk_We_fault : zx_We_fault.2.2.2.2.2.all (fun e => zokE zT 297 zx_We_fault e) = true := by decide +kernel
theorem zy_We_fault : zokX zx_We_fault = true := by decide +kernel
set_option maxRecDepth 100000 in
theorem zk_We_press : zx_We_press.2.2.2.2.2.all (fun e => zokE zT 297 zx_We_press e) = true := by decide +kernel
theorem zy_We_press : zokX zx_We_press = true := by decide +kernel
set_option maxRecDepth 100000 in
theorem zk_We_gap : zx_We_gap.2.2.2.2.2.all (fun e => zokE zT 297 zx_We_gap e) = true := by decide +kernel
theorem zy_We_gap : zokX zx_We_gap = true := by decide +kernel
set_option maxRecDepth 100000 in
theorem zk_We_stretch : zx_We_stretch.2.2.2.2.2.all (fun e => zokE zT 297 zx_We_stretch e) = true := by decide +kernel
theorem zy_We_stretch : zokX zx_We_stretch = true := by decide +kernel
set_option maxRecDepth 100000 in
theorem zk_We_opens : zx_We_opens.2.2.2.2.2.all (fun e => zokE zT 297 zx_We_opens e) = true := by decide +kernel
theorem zy_We_opens : zokX zx_We_opens = true := by decide +kernel
set_option maxRecDepth 100000 in
theorem zk_We_most : zx_We_most.2.2.2.2.2.all (fun e => zokE zT 297 zx_We_most e) = true := by decide +kernel
theorem zy_We_most : zokX zx_We_most = true := by decide +kernel
set_option maxRecDepth 100000 in
theorem zk_We_best : zx_We_best.2.2.2.2.2.all (fun e => zokE zT 297 zx_We_best e) = true := by decide +kernel
theorem zy_We_best : zokX zx_We_best = true := by decide +kernel
set_option maxRecDepth 100000 in
theorem zk_We_chosen : zx_We_chosen.2.2.2.2.2.all (fun e => zokE zT 297 zx_We_chosen e) = true := by decide +kernel
theorem zy_We_chosen : zokX zx_We_chosen = true := by decide +kernel
set_option maxRecDepth 100000 in
theorem zk_We_wheel : zx_We_wheel.2.2.2.2.2.all (fun e => zokE zT 297 zx_We_wheel e) = true := by decide +kernel
theorem zy_We_wheel : zokX zx_We_wheel = true := by decide +kernel
set_option maxRecDepth 100000 in
theorem zk_We_worst : zx_We_worst.2.2.2.2.2.all (fun e => zokE zT 297 zx_We_worst e) = true := by decide +kernel
theorem zy_We_worst : zokX zx_We_worst = true := by decide +kernel
set_option maxRecDepth 100000 in
theorem zk_We_call : zx_We_call.2.2.2.2.2.all (fun e => zokE zT 297 zx_We_call e) = true := by decide +kernel
theorem zy_We_call : zokX zx_We_call = true := by decide +kernel
set_option maxRecDepth 100000 in
theorem zk_We_give : zx_We_give.2.2.2.2.2.all (fun e => zokE zT 297 zx_We_give e) = true := by decide +kernel
theorem zy_We_give : zokX zx_We_give = true := by decide +kernel
set_option maxRecDepth 100000 in
theorem zk_We_begin : zx_We_begin.2.2.2.2.2.all (fun e => zokE zT 297 zx_We_begin e) = true := by decide +kernel
theorem zy_We_begin : zokX zx_We_begin = true := by decide +kernel
set_option maxRecDepth 100000 in
theorem zk_We_move : zx_We_move.2.2.2.2.2.all (fun e => zokE zT 297 zx_We_move e) = true := by decide +kernel
theorem zy_We_move : zokX zx_We_move = true := by decide +kernel
set_option maxRecDepth 100000 in
theorem zk_We_play : zx_We_play.2.2.2.2.2.all (fun e => zokE zT 297 zx_We_play e) = true := by decide +kernel
theorem zy_We_play : zokX zx_We_play = true := by decide +kernel
set_option maxRecDepth 100000 in
theorem zk_We_blame : zx_We_blame.2.2.2.2.2.all (fun e => zokE zT 297 zx_We_blame e) = true := by decide +kernel
theorem zy_We_blame : zokX zx_We_blame = true := by decide +kernel
set_option maxRecDepth 100000 in
theorem zk_We_price : zx_We_price.2.2.2.2.2.all (fun e => zokE zT 297 zx_We_price e) = true := by decide +kernel
theorem zy_We_price : zokX zx_We_price = true := by decide +kernel
set_option maxRecDepth 100000 in
theorem zk_We_store : zx_We_store.2.2.2.2.2.all (fun e => zokE zT 297 zx_We_store e) = true := by decide +kernel
theorem zy_We_store : zokX zx_We_store = true := by decide +kernel
set_option maxRecDepth 100000 in
theorem zk_We_misses : zx_We_misses.2.2.2.2.2.all (fun e => zokE zT 297 zx_We_misses e) = true := by decide +kernel
theorem zy_We_misses : zokX zx_We_misses = true := by decide +kernel
set_option maxRecDepth 100000 in
theorem zk_We_value : zx_We_value.2.2.2.2.2.all (fun e => zokE zT 297 zx_We_value e) = true := by decide +kernel
theorem zy_We_value : zokX zx_We_value = true := by decide +kernel
set_option maxRecDepth 100000 in
theorem zk_We_trade : zx_We_trade.2.2.2.2.2.all (fun e => zokE zT 297 zx_We_trade e) = true := by decide +kernel
theorem zy_We_trade : zokX zx_We_trade = true := by decide +kernel
set_option maxRecDepth 100000 in
theorem zk_We_worth : zx_We_worth.2.2.2.2.2.all (fun e => zokE zT 297 zx_We_worth e) = true := by decide +kernel
theorem zy_We_worth : zokX zx_We_worth = true := by decide +kernel
set_option maxRecDepth 100000 in
theorem zk_We_plan : zx_We_plan.2.2.2.2.2.all (fun e => zokE zT 297 zx_We_plan e) = true := by decide +kernel
theorem zy_We_plan : zokX zx_We_plan = true := by decide +kernel
set_option maxRecDepth 100000 in
theorem zk_We_check : zx_We_check.2.2.2.2.2.all (fun e => zokE zT 297 zx_We_check e) = true := by decide +kernel
theorem zy_We_check : zokX zx_We_check = true := by decide +kernel
set_option maxRecDepth 100000 in
theorem zk_We_hole : zx_We_hole.2.2.2.2.2.all (fun e => zokE zT 297 zx_We_hole e) = true := by decide +kernel
theorem zy_We_hole : zokX zx_We_hole = true := by decide +kernel
set_option maxRecDepth 100000 in
theorem zk_We_shake : zx_We_shake.2.2.2.2.2.all (fun e => zokE zT 297 zx_We_shake e) = true := by decide +kernel
theorem zy_We_shake : zokX zx_We_shake = true := by decide +kernel
set_option maxRecDepth 100000 in
theorem zk_We_off : zx_We_off.2.2.2.2.2.all (fun e => zokE zT 297 zx_We_off e) = true := by decide +kernel
theorem zy_We_off : zokX zx_We_off = true := by decide +kernel
set_option maxRecDepth 100000 in
theorem zk_We_weights : zx_We_weights.2.2.2.2.2.all (fun e => zokE zT 297 zx_We_weights e) = true := by decide +kernel
theorem zy_We_weights : zokX zx_We_weights = true := by decide +kernel
set_option maxRecDepth 100000 in
theorem zk_We_drag : zx_We_drag.2.2.2.2.2.all (fun e => zokE zT 297 zx_We_drag e) = true := by decide +kernel
theorem zy_We_drag : zokX zx_We_drag = true := by decide +kernel
set_option maxRecDepth 100000 in
theorem zk_We_alone : zx_We_alone.2.2.2.2.2.all (fun e => zokE zT 297 zx_We_alone e) = true := by decide +kernel
theorem zy_We_alone : zokX zx_We_alone = true := by decide +kernel
set_option maxRecDepth 100000 in
theorem zk_We_ticksAlone : zx_We_ticksAlone.2.2.2.2.2.all (fun e => zokE zT 297 zx_We_ticksAlone e) = true := by decide +kernel
theorem zy_We_ticksAlone : zokX zx_We_ticksAlone = true := by decide +kernel
set_option maxRecDepth 100000 in
theorem zk_We_cracks : zx_We_cracks.2.2.2.2.2.all (fun e => zokE zT 297 zx_We_cracks e) = true := by decide +kernel
theorem zy_We_cracks : zokX zx_We_cracks = true := by decide +kernel
set_option maxRecDepth 100000 in
theorem zk_We_costs : zx_We_costs.2.2.2.2.2.all (fun e => zokE zT 297 zx_We_costs e) = true := by decide +kernel
theorem zy_We_costs : zokX zx_We_costs = true := by decide +kernel
set_option maxRecDepth 100000 in
theorem zk_We_cost : zx_We_cost.2.2.2.2.2.all (fun e => zokE zT 297 zx_We_cost e) = true := by decide +kernel
theorem zy_We_cost : zokX zx_We_cost = true := by decide +kernel
set_option maxRecDepth 100000 in
theorem zk_We_looks : zx_We_looks.2.2.2.2.2.all (fun e => zokE zT 297 zx_We_looks e) = true := by decide +kernel
theorem zy_We_looks : zokX zx_We_looks = true := by decide +kernel
set_option maxRecDepth 100000 in
theorem zk_We_makes : zx_We_makes.2.2.2.2.2.all (fun e => zokE zT 297 zx_We_makes e) = true := by decide +kernel
theorem zy_We_makes : zokX zx_We_makes = true := by decide +kernel
set_option maxRecDepth 100000 in
theorem zk_We_reads : zx_We_reads.2.2.2.2.2.all (fun e => zokE zT 297 zx_We_reads e) = true := by decide +kernel
theorem zy_We_reads : zokX zx_We_reads = true := by decide +kernel
set_option maxRecDepth 100000 in
theorem zk_We_agree : zx_We_agree.2.2.2.2.2.all (fun e => zokE zT 297 zx_We_agree e) = true := by decide +kernel
theorem zy_We_agree : zokX zx_We_agree = true := by decide +kernel
set_option maxRecDepth 100000 in
theorem zk_We_told : zx_We_told.2.2.2.2.2.all (fun e => zokE zT 297 zx_We_told e) = true := by decide +kernel
theorem zy_We_told : zokX zx_We_told = true := by decide +kernel
set_option maxRecDepth 100000 in
theorem zk_We_next : zx_We_next.2.2.2.2.2.all (fun e => zokE zT 297 zx_We_next e) = true := by decide +kernel
theorem zy_We_next : zokX zx_We_next = true := by decide +kernel
set_option maxRecDepth 100000 in
theorem zk_We_fewest : zx_We_fewest.2.2.2.2.2.all (fun e => zokE zT 297 zx_We_fewest e) = true := by decide +kernel
theorem zy_We_fewest : zokX zx_We_fewest = true := by decide +kernel
set_option maxRecDepth 100000 in
theorem zk_We_undo : zx_We_undo.2.2.2.2.2.all (fun e => zokE zT 297 zx_We_undo e) = true := by decide +kernel
theorem zy_We_undo : zokX zx_We_undo = true := by decide +kernel
set_option maxRecDepth 100000 in
theorem zk_We_redo : zx_We_redo.2.2.2.2.2.all (fun e => zokE zT 297 zx_We_redo e) = true := by decide +kernel
theorem zy_We_redo : zokX zx_We_redo = true := by decide +kernel
set_option maxRecDepth 100000 in
theorem zk_We_digest : zx_We_digest.2.2.2.2.2.all (fun e => zokE zT 297 zx_We_digest e) = true := by decide +kernel
theorem zy_We_digest : zokX zx_We_digest = true := by decide +kernel
set_option maxRecDepth 100000 in
theorem zk_We_about : zx_We_about.2.2.2.2.2.all (fun e => zokE zT 297 zx_We_about e) = true := by decide +kernel
theorem zy_We_about : zokX zx_We_about = true := by decide +kernel
set_option maxRecDepth 100000 in
theorem zk_We_aboutSlot : zx_We_aboutSlot.2.2.2.2.2.all (fun e => zokE zT 297 zx_We_aboutSlot e) = true := by decide +kernel
theorem zy_We_aboutSlot : zokX zx_We_aboutSlot = true := by decide +kernel
set_option maxRecDepth 100000 in
theorem zk_We_isCharge : zx_We_isCharge.2.2.2.2.2.all (fun e => zokE zT 297 zx_We_isCharge e) = true := by decide +kernel
theorem zy_We_isCharge : zokX zx_We_isCharge = true := by decide +kernel
set_option maxRecDepth 100000 in
theorem zk_We_isSlot : zx_We_isSlot.2.2.2.2.2.all (fun e => zokE zT 297 zx_We_isSlot e) = true := by decide +kernel
theorem zy_We_isSlot : zokX zx_We_isSlot = true := by decide +kernel
set_option maxRecDepth 100000 in
theorem zk_We_isFit : zx_We_isFit.2.2.2.2.2.all (fun e => zokE zT 297 zx_We_isFit e) = true := by decide +kernel
theorem zy_We_isFit : zokX zx_We_isFit = true := by decide +kernel
set_option maxRecDepth 100000 in
theorem zk_We_isSpeed : zx_We_isSpeed.2.2.2.2.2.all (fun e => zokE zT 297 zx_We_isSpeed e) = true := by decide +kernel
theorem zy_We_isSpeed : zokX zx_We_isSpeed = true := by decide +kernel
set_option maxRecDepth 100000 in
theorem zk_We_isFalseCount : zx_We_isFalseCount.2.2.2.2.2.all (fun e => zokE zT 297 zx_We_isFalseCount e) = true := by decide +kernel
theorem zy_We_isFalseCount : zokX zx_We_isFalseCount = true := by decide +kernel
set_option maxRecDepth 100000 in
theorem zk_We_within : zx_We_within.2.2.2.2.2.all (fun e => zokE zT 297 zx_We_within e) = true := by decide +kernel
theorem zy_We_within : zokX zx_We_within = true := by decide +kernel
set_option maxRecDepth 100000 in
theorem zk_We_chargesOf : zx_We_chargesOf.2.2.2.2.2.all (fun e => zokE zT 297 zx_We_chargesOf e) = true := by decide +kernel
theorem zy_We_chargesOf : zokX zx_We_chargesOf = true := by decide +kernel
set_option maxRecDepth 100000 in
theorem zk_We_inLowestTerms : zx_We_inLowestTerms.2.2.2.2.2.all (fun e => zokE zT 297 zx_We_inLowestTerms e) = true := by decide +kernel
theorem zy_We_inLowestTerms : zokX zx_We_inLowestTerms = true := by decide +kernel
set_option maxRecDepth 100000 in
theorem zk_We_greatestShared : zx_We_greatestShared.2.2.2.2.2.all (fun e => zokE zT 297 zx_We_greatestShared e) = true := by decide +kernel
theorem zy_We_greatestShared : zokX zx_We_greatestShared = true := by decide +kernel
set_option maxRecDepth 100000 in
theorem zk_Mo_sign : zx_Mo_sign.2.2.2.2.2.all (fun e => zokE zT 297 zx_Mo_sign e) = true := by decide +kernel
theorem zy_Mo_sign : zokX zx_Mo_sign = true := by decide +kernel
set_option maxRecDepth 100000 in
theorem zk_Mo_isLetter : zx_Mo_isLetter.2.2.2.2.2.all (fun e => zokE zT 297 zx_Mo_isLetter e) = true := by decide +kernel
theorem zy_Mo_isLetter : zokX zx_Mo_isLetter = true := by decide +kernel
set_option maxRecDepth 100000 in
theorem zk_Mo_isDigit : zx_Mo_isDigit.2.2.2.2.2.all (fun e => zokE zT 297 zx_Mo_isDigit e) = true := by decide +kernel
theorem zy_Mo_isDigit : zokX zx_Mo_isDigit = true := by decide +kernel
