/-! The tables are right: each row, each method (290 to 296). -/
set_option maxRecDepth 100000 in
theorem zk_Mo_fewest : zx_Mo_fewest.2.2.2.2.2.all (fun e => zokE zT 297 zx_Mo_fewest e) = true := by decide +kernel
theorem zy_Mo_fewest : zokX zx_Mo_fewest = true := by decide +kernel
set_option maxRecDepth 100000 in
theorem zk_Mo_about : zx_Mo_about.2.2.2.2.2.all (fun e => zokE zT 297 zx_Mo_about e) = true := by decide +kernel
theorem zy_Mo_about : zokX zx_Mo_about = true := by decide +kernel
set_option maxRecDepth 100000 in
theorem zk_Mo_feed : zx_Mo_feed.2.2.2.2.2.all (fun e => zokE zT 297 zx_Mo_feed e) = true := by decide +kernel
theorem zy_Mo_feed : zokX zx_Mo_feed = true := by decide +kernel
set_option maxRecDepth 100000 in
theorem zk_Mo_end : zx_Mo_end.2.2.2.2.2.all (fun e => zokE zT 297 zx_Mo_end e) = true := by decide +kernel
theorem zy_Mo_end : zokX zx_Mo_end = true := by decide +kernel
set_option maxRecDepth 100000 in
theorem zk_Ig_bitCount : zx_Ig_bitCount.2.2.2.2.2.all (fun e => zokE zT 297 zx_Ig_bitCount e) = true := by decide +kernel
theorem zy_Ig_bitCount : zokX zx_Ig_bitCount = true := by decide +kernel
set_option maxRecDepth 100000 in
theorem zk_Ar_fill : zx_Ar_fill.2.2.2.2.2.all (fun e => zokE zT 297 zx_Ar_fill e) = true := by decide +kernel
theorem zy_Ar_fill : zokX zx_Ar_fill = true := by decide +kernel
set_option maxRecDepth 100000 in
theorem zk_Ar_fill2 : zx_Ar_fill2.2.2.2.2.2.all (fun e => zokE zT 297 zx_Ar_fill2 e) = true := by decide +kernel
theorem zy_Ar_fill2 : zokX zx_Ar_fill2 = true := by decide +kernel
