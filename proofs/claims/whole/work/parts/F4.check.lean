/-! The tables are right: each row, each method (230 to 269). -/
set_option maxRecDepth 100000 in
theorem zk_Mo_most : zx_Mo_most.2.2.2.2.2.all (fun e => zokE zT 297 zx_Mo_most e) = true := by decide +kernel
theorem zy_Mo_most : zokX zx_Mo_most = true := by decide +kernel
set_option maxRecDepth 100000 in
theorem zk_Mo_best : zx_Mo_best.2.2.2.2.2.all (fun e => zokE zT 297 zx_Mo_best e) = true := by decide +kernel
theorem zy_Mo_best : zokX zx_Mo_best = true := by decide +kernel
set_option maxRecDepth 100000 in
theorem zk_Mo_chosen : zx_Mo_chosen.2.2.2.2.2.all (fun e => zokE zT 297 zx_Mo_chosen e) = true := by decide +kernel
theorem zy_Mo_chosen : zokX zx_Mo_chosen = true := by decide +kernel
set_option maxRecDepth 100000 in
theorem zk_Mo_wheels : zx_Mo_wheels.2.2.2.2.2.all (fun e => zokE zT 297 zx_Mo_wheels e) = true := by decide +kernel
theorem zy_Mo_wheels : zokX zx_Mo_wheels = true := by decide +kernel
set_option maxRecDepth 100000 in
theorem zk_Mo_roomOf : zx_Mo_roomOf.2.2.2.2.2.all (fun e => zokE zT 297 zx_Mo_roomOf e) = true := by decide +kernel
theorem zy_Mo_roomOf : zokX zx_Mo_roomOf = true := by decide +kernel
set_option maxRecDepth 100000 in
theorem zk_Mo_rateOf : zx_Mo_rateOf.2.2.2.2.2.all (fun e => zokE zT 297 zx_Mo_rateOf e) = true := by decide +kernel
theorem zy_Mo_rateOf : zokX zx_Mo_rateOf = true := by decide +kernel
set_option maxRecDepth 100000 in
theorem zk_Mo_place : zx_Mo_place.2.2.2.2.2.all (fun e => zokE zT 297 zx_Mo_place e) = true := by decide +kernel
theorem zy_Mo_place : zokX zx_Mo_place = true := by decide +kernel
set_option maxRecDepth 100000 in
theorem zk_Mo_load : zx_Mo_load.2.2.2.2.2.all (fun e => zokE zT 297 zx_Mo_load e) = true := by decide +kernel
theorem zy_Mo_load : zokX zx_Mo_load = true := by decide +kernel
set_option maxRecDepth 100000 in
theorem zk_Mo_lesser : zx_Mo_lesser.2.2.2.2.2.all (fun e => zokE zT 297 zx_Mo_lesser e) = true := by decide +kernel
theorem zy_Mo_lesser : zokX zx_Mo_lesser = true := by decide +kernel
set_option maxRecDepth 100000 in
theorem zk_Mo_canGiveAtMost : zx_Mo_canGiveAtMost.2.2.2.2.2.all (fun e => zokE zT 297 zx_Mo_canGiveAtMost e) = true := by decide +kernel
theorem zy_Mo_canGiveAtMost : zokX zx_Mo_canGiveAtMost = true := by decide +kernel
set_option maxRecDepth 100000 in
theorem zk_Mo_canGive : zx_Mo_canGive.2.2.2.2.2.all (fun e => zokE zT 297 zx_Mo_canGive e) = true := by decide +kernel
theorem zy_Mo_canGive : zokX zx_Mo_canGive = true := by decide +kernel
set_option maxRecDepth 100000 in
theorem zk_Mo_behind : zx_Mo_behind.2.2.2.2.2.all (fun e => zokE zT 297 zx_Mo_behind e) = true := by decide +kernel
theorem zy_Mo_behind : zokX zx_Mo_behind = true := by decide +kernel
set_option maxRecDepth 100000 in
theorem zk_Mo_upon : zx_Mo_upon.2.2.2.2.2.all (fun e => zokE zT 297 zx_Mo_upon e) = true := by decide +kernel
theorem zy_Mo_upon : zokX zx_Mo_upon = true := by decide +kernel
set_option maxRecDepth 100000 in
theorem zk_Mo_fillOne : zx_Mo_fillOne.2.2.2.2.2.all (fun e => zokE zT 297 zx_Mo_fillOne e) = true := by decide +kernel
theorem zy_Mo_fillOne : zokX zx_Mo_fillOne = true := by decide +kernel
set_option maxRecDepth 100000 in
theorem zk_Mo_isCharged : zx_Mo_isCharged.2.2.2.2.2.all (fun e => zokE zT 297 zx_Mo_isCharged e) = true := by decide +kernel
theorem zy_Mo_isCharged : zokX zx_Mo_isCharged = true := by decide +kernel
set_option maxRecDepth 100000 in
theorem zk_Mo_fill : zx_Mo_fill.2.2.2.2.2.all (fun e => zokE zT 297 zx_Mo_fill e) = true := by decide +kernel
theorem zy_Mo_fill : zokX zx_Mo_fill = true := by decide +kernel
set_option maxRecDepth 100000 in
theorem zk_Mo_isGame : zx_Mo_isGame.2.2.2.2.2.all (fun e => zokE zT 297 zx_Mo_isGame e) = true := by decide +kernel
theorem zy_Mo_isGame : zokX zx_Mo_isGame = true := by decide +kernel
set_option maxRecDepth 100000 in
theorem zk_Mo_worst : zx_Mo_worst.2.2.2.2.2.all (fun e => zokE zT 297 zx_Mo_worst e) = true := by decide +kernel
theorem zy_Mo_worst : zokX zx_Mo_worst = true := by decide +kernel
set_option maxRecDepth 100000 in
theorem zk_Mo_call : zx_Mo_call.2.2.2.2.2.all (fun e => zokE zT 297 zx_Mo_call e) = true := by decide +kernel
theorem zy_Mo_call : zokX zx_Mo_call = true := by decide +kernel
set_option maxRecDepth 100000 in
theorem zk_Mo_give : zx_Mo_give.2.2.2.2.2.all (fun e => zokE zT 297 zx_Mo_give e) = true := by decide +kernel
theorem zy_Mo_give : zokX zx_Mo_give = true := by decide +kernel
set_option maxRecDepth 100000 in
theorem zk_Mo_wheel : zx_Mo_wheel.2.2.2.2.2.all (fun e => zokE zT 297 zx_Mo_wheel e) = true := by decide +kernel
theorem zy_Mo_wheel : zokX zx_Mo_wheel = true := by decide +kernel
set_option maxRecDepth 100000 in
theorem zk_Mo_begin : zx_Mo_begin.2.2.2.2.2.all (fun e => zokE zT 297 zx_Mo_begin e) = true := by decide +kernel
theorem zy_Mo_begin : zokX zx_Mo_begin = true := by decide +kernel
set_option maxRecDepth 100000 in
theorem zk_Mo_giveBy : zx_Mo_giveBy.2.2.2.2.2.all (fun e => zokE zT 297 zx_Mo_giveBy e) = true := by decide +kernel
theorem zy_Mo_giveBy : zokX zx_Mo_giveBy = true := by decide +kernel
set_option maxRecDepth 100000 in
theorem zk_Mo_go : zx_Mo_go.2.2.2.2.2.all (fun e => zokE zT 297 zx_Mo_go e) = true := by decide +kernel
theorem zy_Mo_go : zokX zx_Mo_go = true := by decide +kernel
set_option maxRecDepth 100000 in
theorem zk_Mo_move : zx_Mo_move.2.2.2.2.2.all (fun e => zokE zT 297 zx_Mo_move e) = true := by decide +kernel
theorem zy_Mo_move : zokX zx_Mo_move = true := by decide +kernel
set_option maxRecDepth 100000 in
theorem zk_Mo_play : zx_Mo_play.2.2.2.2.2.all (fun e => zokE zT 297 zx_Mo_play e) = true := by decide +kernel
theorem zy_Mo_play : zokX zx_Mo_play = true := by decide +kernel
set_option maxRecDepth 100000 in
theorem zk_Mo_blame : zx_Mo_blame.2.2.2.2.2.all (fun e => zokE zT 297 zx_Mo_blame e) = true := by decide +kernel
theorem zy_Mo_blame : zokX zx_Mo_blame = true := by decide +kernel
set_option maxRecDepth 100000 in
theorem zk_Mo_price : zx_Mo_price.2.2.2.2.2.all (fun e => zokE zT 297 zx_Mo_price e) = true := by decide +kernel
theorem zy_Mo_price : zokX zx_Mo_price = true := by decide +kernel
set_option maxRecDepth 100000 in
theorem zk_Mo_store : zx_Mo_store.2.2.2.2.2.all (fun e => zokE zT 297 zx_Mo_store e) = true := by decide +kernel
theorem zy_Mo_store : zokX zx_Mo_store = true := by decide +kernel
set_option maxRecDepth 100000 in
theorem zk_Mo_misses : zx_Mo_misses.2.2.2.2.2.all (fun e => zokE zT 297 zx_Mo_misses e) = true := by decide +kernel
theorem zy_Mo_misses : zokX zx_Mo_misses = true := by decide +kernel
set_option maxRecDepth 100000 in
theorem zk_Mo_least0 : zx_Mo_least0.2.2.2.2.2.all (fun e => zokE zT 297 zx_Mo_least0 e) = true := by decide +kernel
theorem zy_Mo_least0 : zokX zx_Mo_least0 = true := by decide +kernel
set_option maxRecDepth 100000 in
theorem zk_Mo_mostBy : zx_Mo_mostBy.2.2.2.2.2.all (fun e => zokE zT 297 zx_Mo_mostBy e) = true := by decide +kernel
theorem zy_Mo_mostBy : zokX zx_Mo_mostBy = true := by decide +kernel
set_option maxRecDepth 100000 in
theorem zk_Mo_fillValues : zx_Mo_fillValues.2.2.2.2.2.all (fun e => zokE zT 297 zx_Mo_fillValues e) = true := by decide +kernel
theorem zy_Mo_fillValues : zokX zx_Mo_fillValues = true := by decide +kernel
set_option maxRecDepth 100000 in
theorem zk_Mo_value : zx_Mo_value.2.2.2.2.2.all (fun e => zokE zT 297 zx_Mo_value e) = true := by decide +kernel
theorem zy_Mo_value : zokX zx_Mo_value = true := by decide +kernel
set_option maxRecDepth 100000 in
theorem zk_Mo_trade : zx_Mo_trade.2.2.2.2.2.all (fun e => zokE zT 297 zx_Mo_trade e) = true := by decide +kernel
theorem zy_Mo_trade : zokX zx_Mo_trade = true := by decide +kernel
set_option maxRecDepth 100000 in
theorem zk_Mo_worth : zx_Mo_worth.2.2.2.2.2.all (fun e => zokE zT 297 zx_Mo_worth e) = true := by decide +kernel
theorem zy_Mo_worth : zokX zx_Mo_worth = true := by decide +kernel
set_option maxRecDepth 100000 in
theorem zk_Mo_plan : zx_Mo_plan.2.2.2.2.2.all (fun e => zokE zT 297 zx_Mo_plan e) = true := by decide +kernel
theorem zy_Mo_plan : zokX zx_Mo_plan = true := by decide +kernel
set_option maxRecDepth 100000 in
theorem zk_Mo_check : zx_Mo_check.2.2.2.2.2.all (fun e => zokE zT 297 zx_Mo_check e) = true := by decide +kernel
theorem zy_Mo_check : zokX zx_Mo_check = true := by decide +kernel
set_option maxRecDepth 100000 in
theorem zk_Mo_hole : zx_Mo_hole.2.2.2.2.2.all (fun e => zokE zT 297 zx_Mo_hole e) = true := by decide +kernel
theorem zy_Mo_hole : zokX zx_Mo_hole = true := by decide +kernel
set_option maxRecDepth 100000 in
theorem zk_Mo_shake : zx_Mo_shake.2.2.2.2.2.all (fun e => zokE zT 297 zx_Mo_shake e) = true := by decide +kernel
theorem zy_Mo_shake : zokX zx_Mo_shake = true := by decide +kernel
