/-! The tables are right: each row, each method (0 to 94). -/
set_option maxRecDepth 100000 in
theorem zk_Ac_init : zx_Ac_init.2.2.2.2.2.all (fun e => zokE zT 297 zx_Ac_init e) = true := by decide +kernel
theorem zy_Ac_init : zokX zx_Ac_init = true := by decide +kernel
set_option maxRecDepth 100000 in
theorem zk_Ac_kept : zx_Ac_kept.2.2.2.2.2.all (fun e => zokE zT 297 zx_Ac_kept e) = true := by decide +kernel
theorem zy_Ac_kept : zokX zx_Ac_kept = true := by decide +kernel
set_option maxRecDepth 100000 in
theorem zk_Ac_takenBack : zx_Ac_takenBack.2.2.2.2.2.all (fun e => zokE zT 297 zx_Ac_takenBack e) = true := by decide +kernel
theorem zy_Ac_takenBack : zokX zx_Ac_takenBack = true := by decide +kernel
set_option maxRecDepth 100000 in
theorem zk_Ac_begins : zx_Ac_begins.2.2.2.2.2.all (fun e => zokE zT 297 zx_Ac_begins e) = true := by decide +kernel
theorem zy_Ac_begins : zokX zx_Ac_begins = true := by decide +kernel
set_option maxRecDepth 100000 in
theorem zk_Ac_takeBack : zx_Ac_takeBack.2.2.2.2.2.all (fun e => zokE zT 297 zx_Ac_takeBack e) = true := by decide +kernel
theorem zy_Ac_takeBack : zokX zx_Ac_takeBack = true := by decide +kernel
set_option maxRecDepth 100000 in
theorem zk_Ac_tellAgain : zx_Ac_tellAgain.2.2.2.2.2.all (fun e => zokE zT 297 zx_Ac_tellAgain e) = true := by decide +kernel
theorem zy_Ac_tellAgain : zokX zx_Ac_tellAgain = true := by decide +kernel
set_option maxRecDepth 100000 in
theorem zk_Ac_passOver : zx_Ac_passOver.2.2.2.2.2.all (fun e => zokE zT 297 zx_Ac_passOver e) = true := by decide +kernel
theorem zy_Ac_passOver : zokX zx_Ac_passOver = true := by decide +kernel
set_option maxRecDepth 100000 in
theorem zk_Ba_init : zx_Ba_init.2.2.2.2.2.all (fun e => zokE zT 297 zx_Ba_init e) = true := by decide +kernel
theorem zy_Ba_init : zokX zx_Ba_init = true := by decide +kernel
set_option maxRecDepth 100000 in
theorem zk_Ba_leastOff : zx_Ba_leastOff.2.2.2.2.2.all (fun e => zokE zT 297 zx_Ba_leastOff e) = true := by decide +kernel
theorem zy_Ba_leastOff : zokX zx_Ba_leastOff = true := by decide +kernel
set_option maxRecDepth 100000 in
theorem zk_Ba_weightsIn : zx_Ba_weightsIn.2.2.2.2.2.all (fun e => zokE zT 297 zx_Ba_weightsIn e) = true := by decide +kernel
theorem zy_Ba_weightsIn : zokX zx_Ba_weightsIn = true := by decide +kernel
set_option maxRecDepth 100000 in
theorem zk_Ba_findStill : zx_Ba_findStill.2.2.2.2.2.all (fun e => zokE zT 297 zx_Ba_findStill e) = true := by decide +kernel
theorem zy_Ba_findStill : zokX zx_Ba_findStill = true := by decide +kernel
set_option maxRecDepth 100000 in
theorem zk_Ba_takeNextWay : zx_Ba_takeNextWay.2.2.2.2.2.all (fun e => zokE zT 297 zx_Ba_takeNextWay e) = true := by decide +kernel
theorem zy_Ba_takeNextWay : zokX zx_Ba_takeNextWay = true := by decide +kernel
set_option maxRecDepth 100000 in
theorem zk_Ba_putMore : zx_Ba_putMore.2.2.2.2.2.all (fun e => zokE zT 297 zx_Ba_putMore e) = true := by decide +kernel
theorem zy_Ba_putMore : zokX zx_Ba_putMore = true := by decide +kernel
set_option maxRecDepth 100000 in
theorem zk_Ba_weigh : zx_Ba_weigh.2.2.2.2.2.all (fun e => zokE zT 297 zx_Ba_weigh e) = true := by decide +kernel
theorem zy_Ba_weigh : zokX zx_Ba_weigh = true := by decide +kernel
set_option maxRecDepth 100000 in
theorem zk_Ce_init : zx_Ce_init.2.2.2.2.2.all (fun e => zokE zT 297 zx_Ce_init e) = true := by decide +kernel
theorem zy_Ce_init : zokX zx_Ce_init = true := by decide +kernel
set_option maxRecDepth 100000 in
theorem zk_Ce_get : zx_Ce_get.2.2.2.2.2.all (fun e => zokE zT 297 zx_Ce_get e) = true := by decide +kernel
theorem zy_Ce_get : zokX zx_Ce_get = true := by decide +kernel
set_option maxRecDepth 100000 in
theorem zk_Ce_put : zx_Ce_put.2.2.2.2.2.all (fun e => zokE zT 297 zx_Ce_put e) = true := by decide +kernel
theorem zy_Ce_put : zokX zx_Ce_put = true := by decide +kernel
set_option maxRecDepth 100000 in
theorem zk_Ce_version : zx_Ce_version.2.2.2.2.2.all (fun e => zokE zT 297 zx_Ce_version e) = true := by decide +kernel
theorem zy_Ce_version : zokX zx_Ce_version = true := by decide +kernel
set_option maxRecDepth 100000 in
theorem zk_Ce_becomesAnother : zx_Ce_becomesAnother.2.2.2.2.2.all (fun e => zokE zT 297 zx_Ce_becomesAnother e) = true := by decide +kernel
theorem zy_Ce_becomesAnother : zokX zx_Ce_becomesAnother = true := by decide +kernel
set_option maxRecDepth 100000 in
theorem zk_Ce_digestOfAll : zx_Ce_digestOfAll.2.2.2.2.2.all (fun e => zokE zT 297 zx_Ce_digestOfAll e) = true := by decide +kernel
theorem zy_Ce_digestOfAll : zokX zx_Ce_digestOfAll = true := by decide +kernel
set_option maxRecDepth 100000 in
theorem zk_Ce_digestOfCounted : zx_Ce_digestOfCounted.2.2.2.2.2.all (fun e => zokE zT 297 zx_Ce_digestOfCounted e) = true := by decide +kernel
theorem zy_Ce_digestOfCounted : zokX zx_Ce_digestOfCounted = true := by decide +kernel
set_option maxRecDepth 100000 in
theorem zk_Ce_digestOf : zx_Ce_digestOf.2.2.2.2.2.all (fun e => zokE zT 297 zx_Ce_digestOf e) = true := by decide +kernel
theorem zy_Ce_digestOf : zokX zx_Ce_digestOf = true := by decide +kernel
set_option maxRecDepth 100000 in
theorem zk_Di_init : zx_Di_init.2.2.2.2.2.all (fun e => zokE zT 297 zx_Di_init e) = true := by decide +kernel
theorem zy_Di_init : zokX zx_Di_init = true := by decide +kernel
set_option maxRecDepth 100000 in
theorem zk_Di_statesThatAgree : zx_Di_statesThatAgree.2.2.2.2.2.all (fun e => zokE zT 297 zx_Di_statesThatAgree e) = true := by decide +kernel
theorem zy_Di_statesThatAgree : zokX zx_Di_statesThatAgree = true := by decide +kernel
set_option maxRecDepth 100000 in
theorem zk_Di_sureFaults : zx_Di_sureFaults.2.2.2.2.2.all (fun e => zokE zT 297 zx_Di_sureFaults e) = true := by decide +kernel
theorem zy_Di_sureFaults : zokX zx_Di_sureFaults = true := by decide +kernel
set_option maxRecDepth 100000 in
theorem zk_Di_barredFaults : zx_Di_barredFaults.2.2.2.2.2.all (fun e => zokE zT 297 zx_Di_barredFaults e) = true := by decide +kernel
theorem zy_Di_barredFaults : zokX zx_Di_barredFaults = true := by decide +kernel
set_option maxRecDepth 100000 in
theorem zk_Di_signToLookFor : zx_Di_signToLookFor.2.2.2.2.2.all (fun e => zokE zT 297 zx_Di_signToLookFor e) = true := by decide +kernel
theorem zy_Di_signToLookFor : zokX zx_Di_signToLookFor = true := by decide +kernel
set_option maxRecDepth 100000 in
theorem zk_Di_leastFalse : zx_Di_leastFalse.2.2.2.2.2.all (fun e => zokE zT 297 zx_Di_leastFalse e) = true := by decide +kernel
theorem zy_Di_leastFalse : zokX zx_Di_leastFalse = true := by decide +kernel
set_option maxRecDepth 100000 in
theorem zk_Di_statesThatHave : zx_Di_statesThatHave.2.2.2.2.2.all (fun e => zokE zT 297 zx_Di_statesThatHave e) = true := by decide +kernel
theorem zy_Di_statesThatHave : zokX zx_Di_statesThatHave = true := by decide +kernel
set_option maxRecDepth 100000 in
theorem zk_Di_agrees : zx_Di_agrees.2.2.2.2.2.all (fun e => zokE zT 297 zx_Di_agrees e) = true := by decide +kernel
theorem zy_Di_agrees : zokX zx_Di_agrees = true := by decide +kernel
set_option maxRecDepth 100000 in
theorem zk_Di_falseReadings : zx_Di_falseReadings.2.2.2.2.2.all (fun e => zokE zT 297 zx_Di_falseReadings e) = true := by decide +kernel
theorem zy_Di_falseReadings : zokX zx_Di_falseReadings = true := by decide +kernel
set_option maxRecDepth 100000 in
theorem zk_Di_signsOf : zx_Di_signsOf.2.2.2.2.2.all (fun e => zokE zT 297 zx_Di_signsOf e) = true := by decide +kernel
theorem zy_Di_signsOf : zokX zx_Di_signsOf = true := by decide +kernel
set_option maxRecDepth 100000 in
theorem zk_Ga_init : zx_Ga_init.2.2.2.2.2.all (fun e => zokE zT 297 zx_Ga_init e) = true := by decide +kernel
theorem zy_Ga_init : zokX zx_Ga_init = true := by decide +kernel
set_option maxRecDepth 100000 in
theorem zk_Ga_canStand : zx_Ga_canStand.2.2.2.2.2.all (fun e => zokE zT 297 zx_Ga_canStand e) = true := by decide +kernel
theorem zy_Ga_canStand : zokX zx_Ga_canStand = true := by decide +kernel
set_option maxRecDepth 100000 in
theorem zk_Ga_loadWheels : zx_Ga_loadWheels.2.2.2.2.2.all (fun e => zokE zT 297 zx_Ga_loadWheels e) = true := by decide +kernel
theorem zy_Ga_loadWheels : zokX zx_Ga_loadWheels = true := by decide +kernel
set_option maxRecDepth 100000 in
theorem zk_Ga_worstOf : zx_Ga_worstOf.2.2.2.2.2.all (fun e => zokE zT 297 zx_Ga_worstOf e) = true := by decide +kernel
theorem zy_Ga_worstOf : zokX zx_Ga_worstOf = true := by decide +kernel
set_option maxRecDepth 100000 in
theorem zk_Ga_worstShort : zx_Ga_worstShort.2.2.2.2.2.all (fun e => zokE zT 297 zx_Ga_worstShort e) = true := by decide +kernel
theorem zy_Ga_worstShort : zokX zx_Ga_worstShort = true := by decide +kernel
set_option maxRecDepth 100000 in
theorem zk_Ga_findWorst : zx_Ga_findWorst.2.2.2.2.2.all (fun e => zokE zT 297 zx_Ga_findWorst e) = true := by decide +kernel
theorem zy_Ga_findWorst : zokX zx_Ga_findWorst = true := by decide +kernel
set_option maxRecDepth 100000 in
theorem zk_Ga_worstCall : zx_Ga_worstCall.2.2.2.2.2.all (fun e => zokE zT 297 zx_Ga_worstCall e) = true := by decide +kernel
theorem zy_Ga_worstCall : zokX zx_Ga_worstCall = true := by decide +kernel
set_option maxRecDepth 100000 in
theorem zk_Ga_bestGive : zx_Ga_bestGive.2.2.2.2.2.all (fun e => zokE zT 297 zx_Ga_bestGive e) = true := by decide +kernel
theorem zy_Ga_bestGive : zokX zx_Ga_bestGive = true := by decide +kernel
set_option maxRecDepth 100000 in
theorem zk_Ga_leastShort : zx_Ga_leastShort.2.2.2.2.2.all (fun e => zokE zT 297 zx_Ga_leastShort e) = true := by decide +kernel
theorem zy_Ga_leastShort : zokX zx_Ga_leastShort = true := by decide +kernel
set_option maxRecDepth 100000 in
theorem zk_Ga_mostGiven : zx_Ga_mostGiven.2.2.2.2.2.all (fun e => zokE zT 297 zx_Ga_mostGiven e) = true := by decide +kernel
theorem zy_Ga_mostGiven : zokX zx_Ga_mostGiven = true := by decide +kernel
set_option maxRecDepth 100000 in
theorem zk_Ga_chargeBehind : zx_Ga_chargeBehind.2.2.2.2.2.all (fun e => zokE zT 297 zx_Ga_chargeBehind e) = true := by decide +kernel
theorem zy_Ga_chargeBehind : zokX zx_Ga_chargeBehind = true := by decide +kernel
set_option maxRecDepth 100000 in
theorem zk_Ga_standBehind : zx_Ga_standBehind.2.2.2.2.2.all (fun e => zokE zT 297 zx_Ga_standBehind e) = true := by decide +kernel
theorem zy_Ga_standBehind : zokX zx_Ga_standBehind = true := by decide +kernel
set_option maxRecDepth 100000 in
theorem zk_Ga_go : zx_Ga_go.2.2.2.2.2.all (fun e => zokE zT 297 zx_Ga_go e) = true := by decide +kernel
theorem zy_Ga_go : zokX zx_Ga_go = true := by decide +kernel
set_option maxRecDepth 100000 in
theorem zk_Ga_callOf : zx_Ga_callOf.2.2.2.2.2.all (fun e => zokE zT 297 zx_Ga_callOf e) = true := by decide +kernel
theorem zy_Ga_callOf : zokX zx_Ga_callOf = true := by decide +kernel
set_option maxRecDepth 100000 in
theorem zk_Ga_giveOf : zx_Ga_giveOf.2.2.2.2.2.all (fun e => zokE zT 297 zx_Ga_giveOf e) = true := by decide +kernel
theorem zy_Ga_giveOf : zokX zx_Ga_giveOf = true := by decide +kernel
set_option maxRecDepth 100000 in
theorem zk_Ga_givenBy : zx_Ga_givenBy.2.2.2.2.2.all (fun e => zokE zT 297 zx_Ga_givenBy e) = true := by decide +kernel
theorem zy_Ga_givenBy : zokX zx_Ga_givenBy = true := by decide +kernel
set_option maxRecDepth 100000 in
theorem zk_Ga_allGiven : zx_Ga_allGiven.2.2.2.2.2.all (fun e => zokE zT 297 zx_Ga_allGiven e) = true := by decide +kernel
theorem zy_Ga_allGiven : zokX zx_Ga_allGiven = true := by decide +kernel
set_option maxRecDepth 100000 in
theorem zk_Ga_canMove : zx_Ga_canMove.2.2.2.2.2.all (fun e => zokE zT 297 zx_Ga_canMove e) = true := by decide +kernel
theorem zy_Ga_canMove : zokX zx_Ga_canMove = true := by decide +kernel
set_option maxRecDepth 100000 in
theorem zk_Ga_ofPlay : zx_Ga_ofPlay.2.2.2.2.2.all (fun e => zokE zT 297 zx_Ga_ofPlay e) = true := by decide +kernel
theorem zy_Ga_ofPlay : zokX zx_Ga_ofPlay = true := by decide +kernel
set_option maxRecDepth 100000 in
theorem zk_Ga_blameOfCall : zx_Ga_blameOfCall.2.2.2.2.2.all (fun e => zokE zT 297 zx_Ga_blameOfCall e) = true := by decide +kernel
theorem zy_Ga_blameOfCall : zokX zx_Ga_blameOfCall = true := by decide +kernel
set_option maxRecDepth 100000 in
theorem zk_Ga_blameOfGive : zx_Ga_blameOfGive.2.2.2.2.2.all (fun e => zokE zT 297 zx_Ga_blameOfGive e) = true := by decide +kernel
theorem zy_Ga_blameOfGive : zokX zx_Ga_blameOfGive = true := by decide +kernel
set_option maxRecDepth 100000 in
theorem zk_In_init : zx_In_init.2.2.2.2.2.all (fun e => zokE zT 297 zx_In_init e) = true := by decide +kernel
theorem zy_In_init : zokX zx_In_init = true := by decide +kernel
set_option maxRecDepth 100000 in
theorem zk_In_partsBehind : zx_In_partsBehind.2.2.2.2.2.all (fun e => zokE zT 297 zx_In_partsBehind e) = true := by decide +kernel
theorem zy_In_partsBehind : zokX zx_In_partsBehind = true := by decide +kernel
set_option maxRecDepth 100000 in
theorem zk_In_costOf : zx_In_costOf.2.2.2.2.2.all (fun e => zokE zT 297 zx_In_costOf e) = true := by decide +kernel
theorem zy_In_costOf : zokX zx_In_costOf = true := by decide +kernel
set_option maxRecDepth 100000 in
theorem zk_In_bestLooks : zx_In_bestLooks.2.2.2.2.2.all (fun e => zokE zT 297 zx_In_bestLooks e) = true := by decide +kernel
theorem zy_In_bestLooks : zokX zx_In_bestLooks = true := by decide +kernel
set_option maxRecDepth 100000 in
theorem zk_In_tryAllLooks : zx_In_tryAllLooks.2.2.2.2.2.all (fun e => zokE zT 297 zx_In_tryAllLooks e) = true := by decide +kernel
theorem zy_In_tryAllLooks : zokX zx_In_tryAllLooks = true := by decide +kernel
set_option maxRecDepth 100000 in
theorem zk_In_mirrored : zx_In_mirrored.2.2.2.2.2.all (fun e => zokE zT 297 zx_In_mirrored e) = true := by decide +kernel
theorem zy_In_mirrored : zokX zx_In_mirrored = true := by decide +kernel
set_option maxRecDepth 100000 in
theorem zk_In_weigh : zx_In_weigh.2.2.2.2.2.all (fun e => zokE zT 297 zx_In_weigh e) = true := by decide +kernel
theorem zy_In_weigh : zokX zx_In_weigh = true := by decide +kernel
set_option maxRecDepth 100000 in
theorem zk_In_comesFirst : zx_In_comesFirst.2.2.2.2.2.all (fun e => zokE zT 297 zx_In_comesFirst e) = true := by decide +kernel
theorem zy_In_comesFirst : zokX zx_In_comesFirst = true := by decide +kernel
set_option maxRecDepth 100000 in
theorem zk_In_costIn : zx_In_costIn.2.2.2.2.2.all (fun e => zokE zT 297 zx_In_costIn e) = true := by decide +kernel
theorem zy_In_costIn : zokX zx_In_costIn = true := by decide +kernel
set_option maxRecDepth 100000 in
theorem zk_In_grow : zx_In_grow.2.2.2.2.2.all (fun e => zokE zT 297 zx_In_grow e) = true := by decide +kernel
theorem zy_In_grow : zokX zx_In_grow = true := by decide +kernel
set_option maxRecDepth 100000 in
theorem zk_In_look : zx_In_look.2.2.2.2.2.all (fun e => zokE zT 297 zx_In_look e) = true := by decide +kernel
theorem zy_In_look : zokX zx_In_look = true := by decide +kernel
set_option maxRecDepth 100000 in
theorem zk_Ma_init : zx_Ma_init.2.2.2.2.2.all (fun e => zokE zT 297 zx_Ma_init e) = true := by decide +kernel
theorem zy_Ma_init : zokX zx_Ma_init = true := by decide +kernel
set_option maxRecDepth 100000 in
theorem zk_Ma_valueOf : zx_Ma_valueOf.2.2.2.2.2.all (fun e => zokE zT 297 zx_Ma_valueOf e) = true := by decide +kernel
theorem zy_Ma_valueOf : zokX zx_Ma_valueOf = true := by decide +kernel
set_option maxRecDepth 100000 in
theorem zk_Ma_bestTrade : zx_Ma_bestTrade.2.2.2.2.2.all (fun e => zokE zT 297 zx_Ma_bestTrade e) = true := by decide +kernel
theorem zy_Ma_bestTrade : zokX zx_Ma_bestTrade = true := by decide +kernel
set_option maxRecDepth 100000 in
theorem zk_Ma_findValues : zx_Ma_findValues.2.2.2.2.2.all (fun e => zokE zT 297 zx_Ma_findValues e) = true := by decide +kernel
theorem zy_Ma_findValues : zokX zx_Ma_findValues = true := by decide +kernel
set_option maxRecDepth 100000 in
theorem zk_Ma_surelyComes : zx_Ma_surelyComes.2.2.2.2.2.all (fun e => zokE zT 297 zx_Ma_surelyComes e) = true := by decide +kernel
theorem zy_Ma_surelyComes : zokX zx_Ma_surelyComes = true := by decide +kernel
set_option maxRecDepth 100000 in
theorem zk_Ma_mostThatComes : zx_Ma_mostThatComes.2.2.2.2.2.all (fun e => zokE zT 297 zx_Ma_mostThatComes e) = true := by decide +kernel
theorem zy_Ma_mostThatComes : zokX zx_Ma_mostThatComes = true := by decide +kernel
set_option maxRecDepth 100000 in
theorem zk_Ma_turned : zx_Ma_turned.2.2.2.2.2.all (fun e => zokE zT 297 zx_Ma_turned e) = true := by decide +kernel
theorem zy_Ma_turned : zokX zx_Ma_turned = true := by decide +kernel
set_option maxRecDepth 100000 in
theorem zk_Ma_leftOf : zx_Ma_leftOf.2.2.2.2.2.all (fun e => zokE zT 297 zx_Ma_leftOf e) = true := by decide +kernel
theorem zy_Ma_leftOf : zokX zx_Ma_leftOf = true := by decide +kernel
set_option maxRecDepth 100000 in
theorem zk_Ma_walkPlan : zx_Ma_walkPlan.2.2.2.2.2.all (fun e => zokE zT 297 zx_Ma_walkPlan e) = true := by decide +kernel
theorem zy_Ma_walkPlan : zokX zx_Ma_walkPlan = true := by decide +kernel
set_option maxRecDepth 100000 in
theorem zk_Ma_whyNot : zx_Ma_whyNot.2.2.2.2.2.all (fun e => zokE zT 297 zx_Ma_whyNot e) = true := by decide +kernel
theorem zy_Ma_whyNot : zokX zx_Ma_whyNot = true := by decide +kernel
set_option maxRecDepth 100000 in
theorem zk_Ma_slotThatFails : zx_Ma_slotThatFails.2.2.2.2.2.all (fun e => zokE zT 297 zx_Ma_slotThatFails e) = true := by decide +kernel
theorem zy_Ma_slotThatFails : zokX zx_Ma_slotThatFails = true := by decide +kernel
set_option maxRecDepth 100000 in
theorem zk_Ma_reasonOfFailing : zx_Ma_reasonOfFailing.2.2.2.2.2.all (fun e => zokE zT 297 zx_Ma_reasonOfFailing e) = true := by decide +kernel
theorem zy_Ma_reasonOfFailing : zokX zx_Ma_reasonOfFailing = true := by decide +kernel
set_option maxRecDepth 100000 in
theorem zk_Ma_incomeOfPlan : zx_Ma_incomeOfPlan.2.2.2.2.2.all (fun e => zokE zT 297 zx_Ma_incomeOfPlan e) = true := by decide +kernel
theorem zy_Ma_incomeOfPlan : zokX zx_Ma_incomeOfPlan = true := by decide +kernel
set_option maxRecDepth 100000 in
theorem zk_Ri_init : zx_Ri_init.2.2.2.2.2.all (fun e => zokE zT 297 zx_Ri_init e) = true := by decide +kernel
theorem zy_Ri_init : zokX zx_Ri_init = true := by decide +kernel
set_option maxRecDepth 100000 in
theorem zk_Ri_hasRing : zx_Ri_hasRing.2.2.2.2.2.all (fun e => zokE zT 297 zx_Ri_hasRing e) = true := by decide +kernel
theorem zy_Ri_hasRing : zokX zx_Ri_hasRing = true := by decide +kernel
set_option maxRecDepth 100000 in
theorem zk_Ri_hasFit : zx_Ri_hasFit.2.2.2.2.2.all (fun e => zokE zT 297 zx_Ri_hasFit e) = true := by decide +kernel
theorem zy_Ri_hasFit : zokX zx_Ri_hasFit = true := by decide +kernel
set_option maxRecDepth 100000 in
theorem zk_Ri_turnAt : zx_Ri_turnAt.2.2.2.2.2.all (fun e => zokE zT 297 zx_Ri_turnAt e) = true := by decide +kernel
theorem zy_Ri_turnAt : zokX zx_Ri_turnAt = true := by decide +kernel
set_option maxRecDepth 100000 in
theorem zk_Ri_stretchUpper : zx_Ri_stretchUpper.2.2.2.2.2.all (fun e => zokE zT 297 zx_Ri_stretchUpper e) = true := by decide +kernel
theorem zy_Ri_stretchUpper : zokX zx_Ri_stretchUpper = true := by decide +kernel
set_option maxRecDepth 100000 in
theorem zk_Ri_stretchLower : zx_Ri_stretchLower.2.2.2.2.2.all (fun e => zokE zT 297 zx_Ri_stretchLower e) = true := by decide +kernel
theorem zy_Ri_stretchLower : zokX zx_Ri_stretchLower = true := by decide +kernel
set_option maxRecDepth 100000 in
theorem zk_Ri_pressUpper : zx_Ri_pressUpper.2.2.2.2.2.all (fun e => zokE zT 297 zx_Ri_pressUpper e) = true := by decide +kernel
theorem zy_Ri_pressUpper : zokX zx_Ri_pressUpper = true := by decide +kernel
set_option maxRecDepth 100000 in
theorem zk_Ri_pressLower : zx_Ri_pressLower.2.2.2.2.2.all (fun e => zokE zT 297 zx_Ri_pressLower e) = true := by decide +kernel
theorem zy_Ri_pressLower : zokX zx_Ri_pressLower = true := by decide +kernel
set_option maxRecDepth 100000 in
theorem zk_Ri_gapUpper : zx_Ri_gapUpper.2.2.2.2.2.all (fun e => zokE zT 297 zx_Ri_gapUpper e) = true := by decide +kernel
theorem zy_Ri_gapUpper : zokX zx_Ri_gapUpper = true := by decide +kernel
set_option maxRecDepth 100000 in
theorem zk_Ri_gapLower : zx_Ri_gapLower.2.2.2.2.2.all (fun e => zokE zT 297 zx_Ri_gapLower e) = true := by decide +kernel
theorem zy_Ri_gapLower : zokX zx_Ri_gapLower = true := by decide +kernel
set_option maxRecDepth 100000 in
theorem zk_Ri_leastSquareThatOpens : zx_Ri_leastSquareThatOpens.2.2.2.2.2.all (fun e => zokE zT 297 zx_Ri_leastSquareThatOpens e) = true := by decide +kernel
theorem zy_Ri_leastSquareThatOpens : zokX zx_Ri_leastSquareThatOpens = true := by decide +kernel
set_option maxRecDepth 100000 in
theorem zk_Ri_findOpenings : zx_Ri_findOpenings.2.2.2.2.2.all (fun e => zokE zT 297 zx_Ri_findOpenings e) = true := by decide +kernel
theorem zy_Ri_findOpenings : zokX zx_Ri_findOpenings = true := by decide +kernel
set_option maxRecDepth 100000 in
theorem zk_Ri_greatestSpeed : zx_Ri_greatestSpeed.2.2.2.2.2.all (fun e => zokE zT 297 zx_Ri_greatestSpeed e) = true := by decide +kernel
theorem zy_Ri_greatestSpeed : zokX zx_Ri_greatestSpeed = true := by decide +kernel
set_option maxRecDepth 100000 in
theorem zk_Ri_speedOfChosen : zx_Ri_speedOfChosen.2.2.2.2.2.all (fun e => zokE zT 297 zx_Ri_speedOfChosen e) = true := by decide +kernel
theorem zy_Ri_speedOfChosen : zokX zx_Ri_speedOfChosen = true := by decide +kernel
set_option maxRecDepth 100000 in
theorem zk_Ri_choiceOf : zx_Ri_choiceOf.2.2.2.2.2.all (fun e => zokE zT 297 zx_Ri_choiceOf e) = true := by decide +kernel
theorem zy_Ri_choiceOf : zokX zx_Ri_choiceOf = true := by decide +kernel
set_option maxRecDepth 100000 in
theorem zk_Ri_chooseFits : zx_Ri_chooseFits.2.2.2.2.2.all (fun e => zokE zT 297 zx_Ri_chooseFits e) = true := by decide +kernel
theorem zy_Ri_chooseFits : zokX zx_Ri_chooseFits = true := by decide +kernel
set_option maxRecDepth 100000 in
theorem zk_Ri_tryAllWays : zx_Ri_tryAllWays.2.2.2.2.2.all (fun e => zokE zT 297 zx_Ri_tryAllWays e) = true := by decide +kernel
theorem zy_Ri_tryAllWays : zokX zx_Ri_tryAllWays = true := by decide +kernel
set_option maxRecDepth 100000 in
theorem zk_Ri_takeWay : zx_Ri_takeWay.2.2.2.2.2.all (fun e => zokE zT 297 zx_Ri_takeWay e) = true := by decide +kernel
theorem zy_Ri_takeWay : zokX zx_Ri_takeWay = true := by decide +kernel
