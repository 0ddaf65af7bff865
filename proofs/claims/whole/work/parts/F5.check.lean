/-! The tables are right: each row, each method (270 to 289). -/
set_option maxRecDepth 100000 in
theorem zk_Mo_seekStill : zx_Mo_seekStill.2.2.2.2.2.all (fun e => zokE zT 297 zx_Mo_seekStill e) = true := by decide +kernel
theorem zy_Mo_seekStill : zokX zx_Mo_seekStill = true := by decide +kernel
set_option maxRecDepth 100000 in
theorem zk_Mo_off : zx_Mo_off.2.2.2.2.2.all (fun e => zokE zT 297 zx_Mo_off e) = true := by decide +kernel
theorem zy_Mo_off : zokX zx_Mo_off = true := by decide +kernel
set_option maxRecDepth 100000 in
theorem zk_Mo_weights : zx_Mo_weights.2.2.2.2.2.all (fun e => zokE zT 297 zx_Mo_weights e) = true := by decide +kernel
theorem zy_Mo_weights : zokX zx_Mo_weights = true := by decide +kernel
set_option maxRecDepth 100000 in
theorem zk_Mo_drag : zx_Mo_drag.2.2.2.2.2.all (fun e => zokE zT 297 zx_Mo_drag e) = true := by decide +kernel
theorem zy_Mo_drag : zokX zx_Mo_drag = true := by decide +kernel
set_option maxRecDepth 100000 in
theorem zk_Mo_alone : zx_Mo_alone.2.2.2.2.2.all (fun e => zokE zT 297 zx_Mo_alone e) = true := by decide +kernel
theorem zy_Mo_alone : zokX zx_Mo_alone = true := by decide +kernel
set_option maxRecDepth 100000 in
theorem zk_Mo_cracks : zx_Mo_cracks.2.2.2.2.2.all (fun e => zokE zT 297 zx_Mo_cracks e) = true := by decide +kernel
theorem zy_Mo_cracks : zokX zx_Mo_cracks = true := by decide +kernel
set_option maxRecDepth 100000 in
theorem zk_Mo_costs : zx_Mo_costs.2.2.2.2.2.all (fun e => zokE zT 297 zx_Mo_costs e) = true := by decide +kernel
theorem zy_Mo_costs : zokX zx_Mo_costs = true := by decide +kernel
set_option maxRecDepth 100000 in
theorem zk_Mo_round : zx_Mo_round.2.2.2.2.2.all (fun e => zokE zT 297 zx_Mo_round e) = true := by decide +kernel
theorem zy_Mo_round : zokX zx_Mo_round = true := by decide +kernel
set_option maxRecDepth 100000 in
theorem zk_Mo_costOf : zx_Mo_costOf.2.2.2.2.2.all (fun e => zokE zT 297 zx_Mo_costOf e) = true := by decide +kernel
theorem zy_Mo_costOf : zokX zx_Mo_costOf = true := by decide +kernel
set_option maxRecDepth 100000 in
theorem zk_Mo_cost : zx_Mo_cost.2.2.2.2.2.all (fun e => zokE zT 297 zx_Mo_cost e) = true := by decide +kernel
theorem zy_Mo_cost : zokX zx_Mo_cost = true := by decide +kernel
set_option maxRecDepth 100000 in
theorem zk_Mo_bitsOf : zx_Mo_bitsOf.2.2.2.2.2.all (fun e => zokE zT 297 zx_Mo_bitsOf e) = true := by decide +kernel
theorem zy_Mo_bitsOf : zokX zx_Mo_bitsOf = true := by decide +kernel
set_option maxRecDepth 100000 in
theorem zk_Mo_looks : zx_Mo_looks.2.2.2.2.2.all (fun e => zokE zT 297 zx_Mo_looks e) = true := by decide +kernel
theorem zy_Mo_looks : zokX zx_Mo_looks = true := by decide +kernel
set_option maxRecDepth 100000 in
theorem zk_Mo_makes : zx_Mo_makes.2.2.2.2.2.all (fun e => zokE zT 297 zx_Mo_makes e) = true := by decide +kernel
theorem zy_Mo_makes : zokX zx_Mo_makes = true := by decide +kernel
set_option maxRecDepth 100000 in
theorem zk_Mo_reads : zx_Mo_reads.2.2.2.2.2.all (fun e => zokE zT 297 zx_Mo_reads e) = true := by decide +kernel
theorem zy_Mo_reads : zokX zx_Mo_reads = true := by decide +kernel
set_option maxRecDepth 100000 in
theorem zk_Mo_signsOf : zx_Mo_signsOf.2.2.2.2.2.all (fun e => zokE zT 297 zx_Mo_signsOf e) = true := by decide +kernel
theorem zy_Mo_signsOf : zokX zx_Mo_signsOf = true := by decide +kernel
set_option maxRecDepth 100000 in
theorem zk_Mo_falseOnes : zx_Mo_falseOnes.2.2.2.2.2.all (fun e => zokE zT 297 zx_Mo_falseOnes e) = true := by decide +kernel
theorem zy_Mo_falseOnes : zokX zx_Mo_falseOnes = true := by decide +kernel
set_option maxRecDepth 100000 in
theorem zk_Mo_isFalse : zx_Mo_isFalse.2.2.2.2.2.all (fun e => zokE zT 297 zx_Mo_isFalse e) = true := by decide +kernel
theorem zy_Mo_isFalse : zokX zx_Mo_isFalse = true := by decide +kernel
set_option maxRecDepth 100000 in
theorem zk_Mo_agree : zx_Mo_agree.2.2.2.2.2.all (fun e => zokE zT 297 zx_Mo_agree e) = true := by decide +kernel
theorem zy_Mo_agree : zokX zx_Mo_agree = true := by decide +kernel
set_option maxRecDepth 100000 in
theorem zk_Mo_told : zx_Mo_told.2.2.2.2.2.all (fun e => zokE zT 297 zx_Mo_told e) = true := by decide +kernel
theorem zy_Mo_told : zokX zx_Mo_told = true := by decide +kernel
set_option maxRecDepth 100000 in
theorem zk_Mo_next : zx_Mo_next.2.2.2.2.2.all (fun e => zokE zT 297 zx_Mo_next e) = true := by decide +kernel
theorem zy_Mo_next : zokX zx_Mo_next = true := by decide +kernel
