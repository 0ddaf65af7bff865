/-! The tables are right: each row, each method (297 to 297). -/
set_option maxRecDepth 100000 in
theorem zk_La_law : zx_La_law.2.2.2.2.2.all (fun e => zokE zT 297 zx_La_law e) = true := by decide +kernel
