/-! The tables are right: each row, each method (297 to 297). -/
set_option maxRecDepth 100000 in
theorem zk_La_law_0 : zc_La_law_0.all (fun e => zokE zT 297 zx_La_law e) = true := by decide +kernel
set_option maxRecDepth 100000 in
theorem zk_La_law_1 : zc_La_law_1.all (fun e => zokE zT 297 zx_La_law e) = true := by decide +kernel
set_option maxRecDepth 100000 in
theorem zk_La_law_2 : zc_La_law_2.all (fun e => zokE zT 297 zx_La_law e) = true := by decide +kernel
set_option maxRecDepth 100000 in
theorem zk_La_law_3 : zc_La_law_3.all (fun e => zokE zT 297 zx_La_law e) = true := by decide +kernel
set_option maxRecDepth 100000 in
theorem zk_La_law_4 : zc_La_law_4.all (fun e => zokE zT 297 zx_La_law e) = true := by decide +kernel
set_option maxRecDepth 100000 in
theorem zk_La_law_5 : zc_La_law_5.all (fun e => zokE zT 297 zx_La_law e) = true := by decide +kernel
set_option maxRecDepth 100000 in
theorem zk_La_law_6 : zc_La_law_6.all (fun e => zokE zT 297 zx_La_law e) = true := by decide +kernel
set_option maxRecDepth 100000 in
theorem zk_La_law_7 : zc_La_law_7.all (fun e => zokE zT 297 zx_La_law e) = true := by decide +kernel
set_option maxRecDepth 100000 in
theorem zk_La_law_8 : zc_La_law_8.all (fun e => zokE zT 297 zx_La_law e) = true := by decide +kernel
set_option maxRecDepth 100000 in
theorem zk_La_law_9 : zc_La_law_9.all (fun e => zokE zT 297 zx_La_law e) = true := by decide +kernel
set_option maxRecDepth 100000 in
theorem zk_La_law_10 : zc_La_law_10.all (fun e => zokE zT 297 zx_La_law e) = true := by decide +kernel
set_option maxRecDepth 100000 in
theorem zk_La_law_11 : zc_La_law_11.all (fun e => zokE zT 297 zx_La_law e) = true := by decide +kernel
set_option maxRecDepth 100000 in
theorem zk_La_law_12 : zc_La_law_12.all (fun e => zokE zT 297 zx_La_law e) = true := by decide +kernel
set_option maxRecDepth 100000 in
theorem zk_La_law_13 : zc_La_law_13.all (fun e => zokE zT 297 zx_La_law e) = true := by decide +kernel
set_option maxRecDepth 100000 in
theorem zk_La_law_14 : zc_La_law_14.all (fun e => zokE zT 297 zx_La_law e) = true := by decide +kernel
set_option maxRecDepth 100000 in
theorem zk_La_law_15 : zc_La_law_15.all (fun e => zokE zT 297 zx_La_law e) = true := by decide +kernel
set_option maxRecDepth 100000 in
theorem zk_La_law_16 : zc_La_law_16.all (fun e => zokE zT 297 zx_La_law e) = true := by decide +kernel
set_option maxRecDepth 100000 in
theorem zk_La_law_17 : zc_La_law_17.all (fun e => zokE zT 297 zx_La_law e) = true := by decide +kernel
set_option maxRecDepth 100000 in
theorem zk_La_law_18 : zc_La_law_18.all (fun e => zokE zT 297 zx_La_law e) = true := by decide +kernel
set_option maxRecDepth 100000 in
theorem zk_La_law_19 : zc_La_law_19.all (fun e => zokE zT 297 zx_La_law e) = true := by decide +kernel
set_option maxRecDepth 100000 in
theorem zk_La_law_20 : zc_La_law_20.all (fun e => zokE zT 297 zx_La_law e) = true := by decide +kernel
set_option maxRecDepth 100000 in
theorem zk_La_law_21 : zc_La_law_21.all (fun e => zokE zT 297 zx_La_law e) = true := by decide +kernel
set_option maxRecDepth 100000 in
theorem zk_La_law_22 : zc_La_law_22.all (fun e => zokE zT 297 zx_La_law e) = true := by decide +kernel
set_option maxRecDepth 100000 in
theorem zk_La_law_23 : zc_La_law_23.all (fun e => zokE zT 297 zx_La_law e) = true := by decide +kernel
set_option maxRecDepth 100000 in
theorem zk_La_law_24 : zc_La_law_24.all (fun e => zokE zT 297 zx_La_law e) = true := by decide +kernel
set_option maxRecDepth 100000 in
theorem zk_La_law_25 : zc_La_law_25.all (fun e => zokE zT 297 zx_La_law e) = true := by decide +kernel
set_option maxRecDepth 100000 in
theorem zk_La_law_26 : zc_La_law_26.all (fun e => zokE zT 297 zx_La_law e) = true := by decide +kernel
set_option maxRecDepth 100000 in
theorem zk_La_law_27 : zc_La_law_27.all (fun e => zokE zT 297 zx_La_law e) = true := by decide +kernel
theorem zk_La_law : zx_La_law.2.2.2.2.2.all (fun e => zokE zT 297 zx_La_law e) = true := by
  show zc_La_law.all _ = true
  simp only [zc_La_law, List.all_append, Bool.and_eq_true, zk_La_law_0, zk_La_law_1, zk_La_law_2, zk_La_law_3, zk_La_law_4, zk_La_law_5, zk_La_law_6, zk_La_law_7, zk_La_law_8, zk_La_law_9, zk_La_law_10, zk_La_law_11, zk_La_law_12, zk_La_law_13, zk_La_law_14, zk_La_law_15, zk_La_law_16, zk_La_law_17, zk_La_law_18, zk_La_law_19, zk_La_law_20, zk_La_law_21, zk_La_law_22, zk_La_law_23, zk_La_law_24, zk_La_law_25, zk_La_law_26, zk_La_law_27, and_self]
