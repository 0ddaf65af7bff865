/-! The tables are right: each row, each method (191 to 229). -/
set_option maxRecDepth 100000 in
theorem zk_Mo_fails : zx_Mo_fails.2.2.2.2.2.all (fun e => zokE zT 297 zx_Mo_fails e) = true := by decide +kernel
theorem zy_Mo_fails : zokX zx_Mo_fails = true := by decide +kernel
set_option maxRecDepth 100000 in
theorem zk_Mo_isGood : zx_Mo_isGood.2.2.2.2.2.all (fun e => zokE zT 297 zx_Mo_isGood e) = true := by decide +kernel
theorem zy_Mo_isGood : zokX zx_Mo_isGood = true := by decide +kernel
set_option maxRecDepth 100000 in
theorem zk_Mo_advance : zx_Mo_advance.2.2.2.2.2.all (fun e => zokE zT 297 zx_Mo_advance e) = true := by decide +kernel
theorem zy_Mo_advance : zokX zx_Mo_advance = true := by decide +kernel
set_option maxRecDepth 100000 in
theorem zk_Mo_isWord : zx_Mo_isWord.2.2.2.2.2.all (fun e => zokE zT 297 zx_Mo_isWord e) = true := by decide +kernel
theorem zy_Mo_isWord : zokX zx_Mo_isWord = true := by decide +kernel
set_option maxRecDepth 100000 in
theorem zk_Mo_wrong : zx_Mo_wrong.2.2.2.2.2.all (fun e => zokE zT 297 zx_Mo_wrong e) = true := by decide +kernel
theorem zy_Mo_wrong : zokX zx_Mo_wrong = true := by decide +kernel
set_option maxRecDepth 100000 in
theorem zk_Mo_must : zx_Mo_must.2.2.2.2.2.all (fun e => zokE zT 297 zx_Mo_must e) = true := by decide +kernel
theorem zy_Mo_must : zokX zx_Mo_must = true := by decide +kernel
set_option maxRecDepth 100000 in
theorem zk_Mo_numeral : zx_Mo_numeral.2.2.2.2.2.all (fun e => zokE zT 297 zx_Mo_numeral e) = true := by decide +kernel
theorem zy_Mo_numeral : zokX zx_Mo_numeral = true := by decide +kernel
set_option maxRecDepth 100000 in
theorem zk_Mo_init : zx_Mo_init.2.2.2.2.2.all (fun e => zokE zT 297 zx_Mo_init e) = true := by decide +kernel
theorem zy_Mo_init : zokX zx_Mo_init = true := by decide +kernel
set_option maxRecDepth 100000 in
theorem zk_Mo_apply : zx_Mo_apply.2.2.2.2.2.all (fun e => zokE zT 297 zx_Mo_apply e) = true := by decide +kernel
theorem zy_Mo_apply : zokX zx_Mo_apply = true := by decide +kernel
set_option maxRecDepth 100000 in
theorem zk_Mo_applyMore : zx_Mo_applyMore.2.2.2.2.2.all (fun e => zokE zT 297 zx_Mo_applyMore e) = true := by decide +kernel
theorem zy_Mo_applyMore : zokX zx_Mo_applyMore = true := by decide +kernel
set_option maxRecDepth 100000 in
theorem zk_Mo_applyRest : zx_Mo_applyRest.2.2.2.2.2.all (fun e => zokE zT 297 zx_Mo_applyRest e) = true := by decide +kernel
theorem zy_Mo_applyRest : zokX zx_Mo_applyRest = true := by decide +kernel
set_option maxRecDepth 100000 in
theorem zk_Mo_tell : zx_Mo_tell.2.2.2.2.2.all (fun e => zokE zT 297 zx_Mo_tell e) = true := by decide +kernel
theorem zy_Mo_tell : zokX zx_Mo_tell = true := by decide +kernel
set_option maxRecDepth 100000 in
theorem zk_Mo_tellAct : zx_Mo_tellAct.2.2.2.2.2.all (fun e => zokE zT 297 zx_Mo_tellAct e) = true := by decide +kernel
theorem zy_Mo_tellAct : zokX zx_Mo_tellAct = true := by decide +kernel
set_option maxRecDepth 100000 in
theorem zk_Mo_undo : zx_Mo_undo.2.2.2.2.2.all (fun e => zokE zT 297 zx_Mo_undo e) = true := by decide +kernel
theorem zy_Mo_undo : zokX zx_Mo_undo = true := by decide +kernel
set_option maxRecDepth 100000 in
theorem zk_Mo_redo : zx_Mo_redo.2.2.2.2.2.all (fun e => zokE zT 297 zx_Mo_redo e) = true := by decide +kernel
theorem zy_Mo_redo : zokX zx_Mo_redo = true := by decide +kernel
set_option maxRecDepth 100000 in
theorem zk_Mo_digest : zx_Mo_digest.2.2.2.2.2.all (fun e => zokE zT 297 zx_Mo_digest e) = true := by decide +kernel
theorem zy_Mo_digest : zokX zx_Mo_digest = true := by decide +kernel
set_option maxRecDepth 100000 in
theorem zk_Mo_isIn : zx_Mo_isIn.2.2.2.2.2.all (fun e => zokE zT 297 zx_Mo_isIn e) = true := by decide +kernel
theorem zy_Mo_isIn : zokX zx_Mo_isIn = true := by decide +kernel
set_option maxRecDepth 100000 in
theorem zk_Mo_stack : zx_Mo_stack.2.2.2.2.2.all (fun e => zokE zT 297 zx_Mo_stack e) = true := by decide +kernel
theorem zy_Mo_stack : zokX zx_Mo_stack = true := by decide +kernel
set_option maxRecDepth 100000 in
theorem zk_Mo_readRing : zx_Mo_readRing.2.2.2.2.2.all (fun e => zokE zT 297 zx_Mo_readRing e) = true := by decide +kernel
theorem zy_Mo_readRing : zokX zx_Mo_readRing = true := by decide +kernel
set_option maxRecDepth 100000 in
theorem zk_Mo_fault : zx_Mo_fault.2.2.2.2.2.all (fun e => zokE zT 297 zx_Mo_fault e) = true := by decide +kernel
theorem zy_Mo_fault : zokX zx_Mo_fault = true := by decide +kernel
set_option maxRecDepth 100000 in
theorem zk_Mo_rings : zx_Mo_rings.2.2.2.2.2.all (fun e => zokE zT 297 zx_Mo_rings e) = true := by decide +kernel
theorem zy_Mo_rings : zokX zx_Mo_rings = true := by decide +kernel
set_option maxRecDepth 100000 in
theorem zk_Mo_heavy : zx_Mo_heavy.2.2.2.2.2.all (fun e => zokE zT 297 zx_Mo_heavy e) = true := by decide +kernel
theorem zy_Mo_heavy : zokX zx_Mo_heavy = true := by decide +kernel
set_option maxRecDepth 100000 in
theorem zk_Mo_stiff : zx_Mo_stiff.2.2.2.2.2.all (fun e => zokE zT 297 zx_Mo_stiff e) = true := by decide +kernel
theorem zy_Mo_stiff : zokX zx_Mo_stiff = true := by decide +kernel
set_option maxRecDepth 100000 in
theorem zk_Mo_holds : zx_Mo_holds.2.2.2.2.2.all (fun e => zokE zT 297 zx_Mo_holds e) = true := by decide +kernel
theorem zy_Mo_holds : zokX zx_Mo_holds = true := by decide +kernel
set_option maxRecDepth 100000 in
theorem zk_Mo_gives : zx_Mo_gives.2.2.2.2.2.all (fun e => zokE zT 297 zx_Mo_gives e) = true := by decide +kernel
theorem zy_Mo_gives : zokX zx_Mo_gives = true := by decide +kernel
set_option maxRecDepth 100000 in
theorem zk_Mo_determinant : zx_Mo_determinant.2.2.2.2.2.all (fun e => zokE zT 297 zx_Mo_determinant e) = true := by decide +kernel
theorem zy_Mo_determinant : zokX zx_Mo_determinant = true := by decide +kernel
set_option maxRecDepth 100000 in
theorem zk_Mo_rows : zx_Mo_rows.2.2.2.2.2.all (fun e => zokE zT 297 zx_Mo_rows e) = true := by decide +kernel
theorem zy_Mo_rows : zokX zx_Mo_rows = true := by decide +kernel
set_option maxRecDepth 100000 in
theorem zk_Mo_answers : zx_Mo_answers.2.2.2.2.2.all (fun e => zokE zT 297 zx_Mo_answers e) = true := by decide +kernel
theorem zy_Mo_answers : zokX zx_Mo_answers = true := by decide +kernel
set_option maxRecDepth 100000 in
theorem zk_Mo_solve : zx_Mo_solve.2.2.2.2.2.all (fun e => zokE zT 297 zx_Mo_solve e) = true := by decide +kernel
theorem zy_Mo_solve : zokX zx_Mo_solve = true := by decide +kernel
set_option maxRecDepth 100000 in
theorem zk_Mo_ownFits : zx_Mo_ownFits.2.2.2.2.2.all (fun e => zokE zT 297 zx_Mo_ownFits e) = true := by decide +kernel
theorem zy_Mo_ownFits : zokX zx_Mo_ownFits = true := by decide +kernel
set_option maxRecDepth 100000 in
theorem zk_Mo_common : zx_Mo_common.2.2.2.2.2.all (fun e => zokE zT 297 zx_Mo_common e) = true := by decide +kernel
theorem zy_Mo_common : zokX zx_Mo_common = true := by decide +kernel
set_option maxRecDepth 100000 in
theorem zk_Mo_partOf : zx_Mo_partOf.2.2.2.2.2.all (fun e => zokE zT 297 zx_Mo_partOf e) = true := by decide +kernel
theorem zy_Mo_partOf : zokX zx_Mo_partOf = true := by decide +kernel
set_option maxRecDepth 100000 in
theorem zk_Mo_isFit : zx_Mo_isFit.2.2.2.2.2.all (fun e => zokE zT 297 zx_Mo_isFit e) = true := by decide +kernel
theorem zy_Mo_isFit : zokX zx_Mo_isFit = true := by decide +kernel
set_option maxRecDepth 100000 in
theorem zk_Mo_press : zx_Mo_press.2.2.2.2.2.all (fun e => zokE zT 297 zx_Mo_press e) = true := by decide +kernel
theorem zy_Mo_press : zokX zx_Mo_press = true := by decide +kernel
set_option maxRecDepth 100000 in
theorem zk_Mo_gap : zx_Mo_gap.2.2.2.2.2.all (fun e => zokE zT 297 zx_Mo_gap e) = true := by decide +kernel
theorem zy_Mo_gap : zokX zx_Mo_gap = true := by decide +kernel
set_option maxRecDepth 100000 in
theorem zk_Mo_strain : zx_Mo_strain.2.2.2.2.2.all (fun e => zokE zT 297 zx_Mo_strain e) = true := by decide +kernel
theorem zy_Mo_strain : zokX zx_Mo_strain = true := by decide +kernel
set_option maxRecDepth 100000 in
theorem zk_Mo_stretch : zx_Mo_stretch.2.2.2.2.2.all (fun e => zokE zT 297 zx_Mo_stretch e) = true := by decide +kernel
theorem zy_Mo_stretch : zokX zx_Mo_stretch = true := by decide +kernel
set_option maxRecDepth 100000 in
theorem zk_Mo_opens : zx_Mo_opens.2.2.2.2.2.all (fun e => zokE zT 297 zx_Mo_opens e) = true := by decide +kernel
theorem zy_Mo_opens : zokX zx_Mo_opens = true := by decide +kernel
set_option maxRecDepth 100000 in
theorem zk_Mo_mostNow : zx_Mo_mostNow.2.2.2.2.2.all (fun e => zokE zT 297 zx_Mo_mostNow e) = true := by decide +kernel
theorem zy_Mo_mostNow : zokX zx_Mo_mostNow = true := by decide +kernel
