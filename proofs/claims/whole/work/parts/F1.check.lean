/-! The tables are right: each row, each method (95 to 131). -/
set_option maxRecDepth 100000 in
theorem zk_Ri_choiceIn : zx_Ri_choiceIn.2.2.2.2.2.all (fun e => zokE zT 297 zx_Ri_choiceIn e) = true := by decide +kernel
theorem zy_Ri_choiceIn : zokX zx_Ri_choiceIn = true := by decide +kernel
set_option maxRecDepth 100000 in
theorem zk_Ri_greatestSpeedAsLoaded : zx_Ri_greatestSpeedAsLoaded.2.2.2.2.2.all (fun e => zokE zT 297 zx_Ri_greatestSpeedAsLoaded e) = true := by decide +kernel
theorem zy_Ri_greatestSpeedAsLoaded : zokX zx_Ri_greatestSpeedAsLoaded = true := by decide +kernel
set_option maxRecDepth 100000 in
theorem zk_Ri_holdsAsOneBlock : zx_Ri_holdsAsOneBlock.2.2.2.2.2.all (fun e => zokE zT 297 zx_Ri_holdsAsOneBlock e) = true := by decide +kernel
theorem zy_Ri_holdsAsOneBlock : zokX zx_Ri_holdsAsOneBlock = true := by decide +kernel
set_option maxRecDepth 100000 in
theorem zk_Ri_load : zx_Ri_load.2.2.2.2.2.all (fun e => zokE zT 297 zx_Ri_load e) = true := by decide +kernel
theorem zy_Ri_load : zokX zx_Ri_load = true := by decide +kernel
set_option maxRecDepth 100000 in
theorem zk_Ri_settle : zx_Ri_settle.2.2.2.2.2.all (fun e => zokE zT 297 zx_Ri_settle e) = true := by decide +kernel
theorem zy_Ri_settle : zokX zx_Ri_settle = true := by decide +kernel
set_option maxRecDepth 100000 in
theorem zk_Ri_settleBlocks : zx_Ri_settleBlocks.2.2.2.2.2.all (fun e => zokE zT 297 zx_Ri_settleBlocks e) = true := by decide +kernel
theorem zy_Ri_settleBlocks : zokX zx_Ri_settleBlocks = true := by decide +kernel
set_option maxRecDepth 100000 in
theorem zk_Ri_settleBlock : zx_Ri_settleBlock.2.2.2.2.2.all (fun e => zokE zT 297 zx_Ri_settleBlock e) = true := by decide +kernel
theorem zy_Ri_settleBlock : zokX zx_Ri_settleBlock = true := by decide +kernel
set_option maxRecDepth 100000 in
theorem zk_Ri_closeOverlaps : zx_Ri_closeOverlaps.2.2.2.2.2.all (fun e => zokE zT 297 zx_Ri_closeOverlaps e) = true := by decide +kernel
theorem zy_Ri_closeOverlaps : zokX zx_Ri_closeOverlaps = true := by decide +kernel
set_option maxRecDepth 100000 in
theorem zk_Sr_init : zx_Sr_init.2.2.2.2.2.all (fun e => zokE zT 297 zx_Sr_init e) = true := by decide +kernel
theorem zy_Sr_init : zokX zx_Sr_init = true := by decide +kernel
set_option maxRecDepth 100000 in
theorem zk_Sr_rings : zx_Sr_rings.2.2.2.2.2.all (fun e => zokE zT 297 zx_Sr_rings e) = true := by decide +kernel
theorem zy_Sr_rings : zokX zx_Sr_rings = true := by decide +kernel
set_option maxRecDepth 100000 in
theorem zk_Sr_ringCell : zx_Sr_ringCell.2.2.2.2.2.all (fun e => zokE zT 297 zx_Sr_ringCell e) = true := by decide +kernel
theorem zy_Sr_ringCell : zokX zx_Sr_ringCell = true := by decide +kernel
set_option maxRecDepth 100000 in
theorem zk_Sr_reason : zx_Sr_reason.2.2.2.2.2.all (fun e => zokE zT 297 zx_Sr_reason e) = true := by decide +kernel
theorem zy_Sr_reason : zokX zx_Sr_reason = true := by decide +kernel
set_option maxRecDepth 100000 in
theorem zk_Sr_place : zx_Sr_place.2.2.2.2.2.all (fun e => zokE zT 297 zx_Sr_place e) = true := by decide +kernel
theorem zy_Sr_place : zokX zx_Sr_place = true := by decide +kernel
set_option maxRecDepth 100000 in
theorem zk_Sr_readTape : zx_Sr_readTape.2.2.2.2.2.all (fun e => zokE zT 297 zx_Sr_readTape e) = true := by decide +kernel
theorem zy_Sr_readTape : zokX zx_Sr_readTape = true := by decide +kernel
set_option maxRecDepth 100000 in
theorem zk_Sr_readRing : zx_Sr_readRing.2.2.2.2.2.all (fun e => zokE zT 297 zx_Sr_readRing e) = true := by decide +kernel
theorem zy_Sr_readRing : zokX zx_Sr_readRing = true := by decide +kernel
set_option maxRecDepth 100000 in
theorem zk_Sr_readFit : zx_Sr_readFit.2.2.2.2.2.all (fun e => zokE zT 297 zx_Sr_readFit e) = true := by decide +kernel
theorem zy_Sr_readFit : zokX zx_Sr_readFit = true := by decide +kernel
set_option maxRecDepth 100000 in
theorem zk_Sr_readStiff : zx_Sr_readStiff.2.2.2.2.2.all (fun e => zokE zT 297 zx_Sr_readStiff e) = true := by decide +kernel
theorem zy_Sr_readStiff : zokX zx_Sr_readStiff = true := by decide +kernel
set_option maxRecDepth 100000 in
theorem zk_Sr_readNumber : zx_Sr_readNumber.2.2.2.2.2.all (fun e => zokE zT 297 zx_Sr_readNumber e) = true := by decide +kernel
theorem zy_Sr_readNumber : zokX zx_Sr_readNumber = true := by decide +kernel
set_option maxRecDepth 100000 in
theorem zk_Sr_readWord : zx_Sr_readWord.2.2.2.2.2.all (fun e => zokE zT 297 zx_Sr_readWord e) = true := by decide +kernel
theorem zy_Sr_readWord : zokX zx_Sr_readWord = true := by decide +kernel
set_option maxRecDepth 100000 in
theorem zk_Sr_readSign : zx_Sr_readSign.2.2.2.2.2.all (fun e => zokE zT 297 zx_Sr_readSign e) = true := by decide +kernel
theorem zy_Sr_readSign : zokX zx_Sr_readSign = true := by decide +kernel
set_option maxRecDepth 100000 in
theorem zk_Sr_fails : zx_Sr_fails.2.2.2.2.2.all (fun e => zokE zT 297 zx_Sr_fails e) = true := by decide +kernel
theorem zy_Sr_fails : zokX zx_Sr_fails = true := by decide +kernel
set_option maxRecDepth 100000 in
theorem zk_Sr_isWord : zx_Sr_isWord.2.2.2.2.2.all (fun e => zokE zT 297 zx_Sr_isWord e) = true := by decide +kernel
theorem zy_Sr_isWord : zokX zx_Sr_isWord = true := by decide +kernel
set_option maxRecDepth 100000 in
theorem zk_Sr_takeToken : zx_Sr_takeToken.2.2.2.2.2.all (fun e => zokE zT 297 zx_Sr_takeToken e) = true := by decide +kernel
theorem zy_Sr_takeToken : zokX zx_Sr_takeToken = true := by decide +kernel
set_option maxRecDepth 100000 in
theorem zk_Sr_takeWord : zx_Sr_takeWord.2.2.2.2.2.all (fun e => zokE zT 297 zx_Sr_takeWord e) = true := by decide +kernel
theorem zy_Sr_takeWord : zokX zx_Sr_takeWord = true := by decide +kernel
set_option maxRecDepth 100000 in
theorem zk_Sr_takeNumber : zx_Sr_takeNumber.2.2.2.2.2.all (fun e => zokE zT 297 zx_Sr_takeNumber e) = true := by decide +kernel
theorem zy_Sr_takeNumber : zokX zx_Sr_takeNumber = true := by decide +kernel
set_option maxRecDepth 100000 in
theorem zk_Sr_isBlank : zx_Sr_isBlank.2.2.2.2.2.all (fun e => zokE zT 297 zx_Sr_isBlank e) = true := by decide +kernel
theorem zy_Sr_isBlank : zokX zx_Sr_isBlank = true := by decide +kernel
set_option maxRecDepth 100000 in
theorem zk_Sr_isLetter : zx_Sr_isLetter.2.2.2.2.2.all (fun e => zokE zT 297 zx_Sr_isLetter e) = true := by decide +kernel
theorem zy_Sr_isLetter : zokX zx_Sr_isLetter = true := by decide +kernel
set_option maxRecDepth 100000 in
theorem zk_Sr_isDigit : zx_Sr_isDigit.2.2.2.2.2.all (fun e => zokE zT 297 zx_Sr_isDigit e) = true := by decide +kernel
theorem zy_Sr_isDigit : zokX zx_Sr_isDigit = true := by decide +kernel
set_option maxRecDepth 100000 in
theorem zk_Ta_init : zx_Ta_init.2.2.2.2.2.all (fun e => zokE zT 297 zx_Ta_init e) = true := by decide +kernel
theorem zy_Ta_init : zokX zx_Ta_init = true := by decide +kernel
set_option maxRecDepth 100000 in
theorem zk_Ta_size : zx_Ta_size.2.2.2.2.2.all (fun e => zokE zT 297 zx_Ta_size e) = true := by decide +kernel
theorem zy_Ta_size : zokX zx_Ta_size = true := by decide +kernel
set_option maxRecDepth 100000 in
theorem zk_Ta_byteAt : zx_Ta_byteAt.2.2.2.2.2.all (fun e => zokE zT 297 zx_Ta_byteAt e) = true := by decide +kernel
theorem zy_Ta_byteAt : zokX zx_Ta_byteAt = true := by decide +kernel
set_option maxRecDepth 100000 in
theorem zk_Ta_hasPlaceFor : zx_Ta_hasPlaceFor.2.2.2.2.2.all (fun e => zokE zT 297 zx_Ta_hasPlaceFor e) = true := by decide +kernel
theorem zy_Ta_hasPlaceFor : zokX zx_Ta_hasPlaceFor = true := by decide +kernel
set_option maxRecDepth 100000 in
theorem zk_Ta_addNumber : zx_Ta_addNumber.2.2.2.2.2.all (fun e => zokE zT 297 zx_Ta_addNumber e) = true := by decide +kernel
theorem zy_Ta_addNumber : zokX zx_Ta_addNumber = true := by decide +kernel
set_option maxRecDepth 100000 in
theorem zk_Ta_cutTo : zx_Ta_cutTo.2.2.2.2.2.all (fun e => zokE zT 297 zx_Ta_cutTo e) = true := by decide +kernel
theorem zy_Ta_cutTo : zokX zx_Ta_cutTo = true := by decide +kernel
set_option maxRecDepth 100000 in
theorem zk_We_init : zx_We_init.2.2.2.2.2.all (fun e => zokE zT 297 zx_We_init e) = true := by decide +kernel
theorem zy_We_init : zokX zx_We_init = true := by decide +kernel
set_option maxRecDepth 100000 in
theorem zk_We_feed : zx_We_feed.2.2.2.2.2.all (fun e => zokE zT 297 zx_We_feed e) = true := by decide +kernel
theorem zy_We_feed : zokX zx_We_feed = true := by decide +kernel
set_option maxRecDepth 100000 in
theorem zk_We_end : zx_We_end.2.2.2.2.2.all (fun e => zokE zT 297 zx_We_end e) = true := by decide +kernel
theorem zy_We_end : zokX zx_We_end = true := by decide +kernel
