set_option maxRecDepth 100000 in
theorem oX0_init : x_okL mX0_init 0 mX0_init.2.2.2.2 = true := by decide +kernel
set_option maxRecDepth 100000 in
theorem wX0_init : x_okM 0 mX0_init = true := by decide +kernel
set_option maxRecDepth 100000 in
theorem oX0_least : x_okL mX0_least 0 mX0_least.2.2.2.2 = true := by decide +kernel
set_option maxRecDepth 100000 in
theorem wX0_least : x_okM 1 mX0_least = true := by decide +kernel
set_option maxRecDepth 100000 in
theorem oX0_writeTurns : x_okL mX0_writeTurns 0 mX0_writeTurns.2.2.2.2 = true := by decide +kernel
set_option maxRecDepth 100000 in
theorem wX0_writeTurns : x_okM 2 mX0_writeTurns = true := by decide +kernel
set_option maxRecDepth 100000 in
theorem oX0_leastBehind : x_okL mX0_leastBehind 0 mX0_leastBehind.2.2.2.2 = true := by decide +kernel
set_option maxRecDepth 100000 in
theorem wX0_leastBehind : x_okM 3 mX0_leastBehind = true := by decide +kernel
set_option maxRecDepth 100000 in
theorem oX0_mostWithin : x_okL mX0_mostWithin 0 mX0_mostWithin.2.2.2.2 = true := by decide +kernel
set_option maxRecDepth 100000 in
theorem wX0_mostWithin : x_okM 4 mX0_mostWithin = true := by decide +kernel
set_option maxRecDepth 100000 in
theorem oX0_raiseMost : x_okL mX0_raiseMost 0 mX0_raiseMost.2.2.2.2 = true := by decide +kernel
set_option maxRecDepth 100000 in
theorem wX0_raiseMost : x_okM 5 mX0_raiseMost = true := by decide +kernel
set_option maxRecDepth 100000 in
theorem oX0_mostByCloud : x_okL mX0_mostByCloud 0 mX0_mostByCloud.2.2.2.2 = true := by decide +kernel
set_option maxRecDepth 100000 in
theorem wX0_mostByCloud : x_okM 6 mX0_mostByCloud = true := by decide +kernel
set_option maxRecDepth 100000 in
theorem oX0_mostBehindClouds : x_okL mX0_mostBehindClouds 0 mX0_mostBehindClouds.2.2.2.2 = true := by decide +kernel
set_option maxRecDepth 100000 in
theorem wX0_mostBehindClouds : x_okM 7 mX0_mostBehindClouds = true := by decide +kernel
set_option maxRecDepth 100000 in
theorem oX0_leastOrder : x_okL mX0_leastOrder 0 mX0_leastOrder.2.2.2.2 = true := by decide +kernel
set_option maxRecDepth 100000 in
theorem wX0_leastOrder : x_okM 8 mX0_leastOrder = true := by decide +kernel
set_option maxRecDepth 100000 in
theorem oX0_lowerOrders : x_okL mX0_lowerOrders 0 mX0_lowerOrders.2.2.2.2 = true := by decide +kernel
set_option maxRecDepth 100000 in
theorem wX0_lowerOrders : x_okM 9 mX0_lowerOrders = true := by decide +kernel
set_option maxRecDepth 100000 in
theorem oX0_swapTables : x_okL mX0_swapTables 0 mX0_swapTables.2.2.2.2 = true := by decide +kernel
set_option maxRecDepth 100000 in
theorem wX0_swapTables : x_okM 10 mX0_swapTables = true := by decide +kernel
set_option maxRecDepth 100000 in
theorem oX1_init : x_okL mX1_init 0 mX1_init.2.2.2.2 = true := by decide +kernel
set_option maxRecDepth 100000 in
theorem wX1_init : x_okM 11 mX1_init = true := by decide +kernel
set_option maxRecDepth 100000 in
theorem oX1_become : x_okL mX1_become 0 mX1_become.2.2.2.2 = true := by decide +kernel
set_option maxRecDepth 100000 in
theorem wX1_become : x_okM 12 mX1_become = true := by decide +kernel
set_option maxRecDepth 100000 in
theorem oX1_standAt : x_okL mX1_standAt 0 mX1_standAt.2.2.2.2 = true := by decide +kernel
set_option maxRecDepth 100000 in
theorem wX1_standAt : x_okM 13 mX1_standAt = true := by decide +kernel
set_option maxRecDepth 100000 in
theorem oX1_kind : x_okL mX1_kind 0 mX1_kind.2.2.2.2 = true := by decide +kernel
set_option maxRecDepth 100000 in
theorem wX1_kind : x_okM 14 mX1_kind = true := by decide +kernel
set_option maxRecDepth 100000 in
theorem oX1_speed : x_okL mX1_speed 0 mX1_speed.2.2.2.2 = true := by decide +kernel
set_option maxRecDepth 100000 in
theorem wX1_speed : x_okM 15 mX1_speed = true := by decide +kernel
set_option maxRecDepth 100000 in
theorem oX1_toldBright : x_okL mX1_toldBright 0 mX1_toldBright.2.2.2.2 = true := by decide +kernel
set_option maxRecDepth 100000 in
theorem wX1_toldBright : x_okM 16 mX1_toldBright = true := by decide +kernel
set_option maxRecDepth 100000 in
theorem oX1_isOf : x_okL mX1_isOf 0 mX1_isOf.2.2.2.2 = true := by decide +kernel
set_option maxRecDepth 100000 in
theorem wX1_isOf : x_okM 17 mX1_isOf = true := by decide +kernel
set_option maxRecDepth 100000 in
theorem oX1_movedBy : x_okL mX1_movedBy 0 mX1_movedBy.2.2.2.2 = true := by decide +kernel
set_option maxRecDepth 100000 in
theorem wX1_movedBy : x_okM 18 mX1_movedBy = true := by decide +kernel
set_option maxRecDepth 100000 in
theorem oX1_placeAt : x_okL mX1_placeAt 0 mX1_placeAt.2.2.2.2 = true := by decide +kernel
set_option maxRecDepth 100000 in
theorem wX1_placeAt : x_okM 19 mX1_placeAt = true := by decide +kernel
set_option maxRecDepth 100000 in
theorem oX1_brightAt : x_okL mX1_brightAt 0 mX1_brightAt.2.2.2.2 = true := by decide +kernel
set_option maxRecDepth 100000 in
theorem wX1_brightAt : x_okM 20 mX1_brightAt = true := by decide +kernel
set_option maxRecDepth 100000 in
theorem oX1_brightTogether : x_okL mX1_brightTogether 0 mX1_brightTogether.2.2.2.2 = true := by decide +kernel
set_option maxRecDepth 100000 in
theorem wX1_brightTogether : x_okM 21 mX1_brightTogether = true := by decide +kernel
set_option maxRecDepth 100000 in
theorem oX1_movesWithin : x_okL mX1_movesWithin 0 mX1_movesWithin.2.2.2.2 = true := by decide +kernel
set_option maxRecDepth 100000 in
theorem wX1_movesWithin : x_okM 22 mX1_movesWithin = true := by decide +kernel
set_option maxRecDepth 100000 in
theorem oX1_returnsAfter : x_okL mX1_returnsAfter 0 mX1_returnsAfter.2.2.2.2 = true := by decide +kernel
set_option maxRecDepth 100000 in
theorem wX1_returnsAfter : x_okM 23 mX1_returnsAfter = true := by decide +kernel
set_option maxRecDepth 100000 in
theorem oX2_init : x_okL mX2_init 0 mX2_init.2.2.2.2 = true := by decide +kernel
set_option maxRecDepth 100000 in
theorem wX2_init : x_okM 24 mX2_init = true := by decide +kernel
set_option maxRecDepth 100000 in
theorem oX2_room : x_okL mX2_room 0 mX2_room.2.2.2.2 = true := by decide +kernel
set_option maxRecDepth 100000 in
theorem wX2_room : x_okM 25 mX2_room = true := by decide +kernel
set_option maxRecDepth 100000 in
theorem oX2_size : x_okL mX2_size 0 mX2_size.2.2.2.2 = true := by decide +kernel
set_option maxRecDepth 100000 in
theorem wX2_size : x_okM 26 mX2_size = true := by decide +kernel
set_option maxRecDepth 100000 in
theorem oX2_isMissing : x_okL mX2_isMissing 0 mX2_isMissing.2.2.2.2 = true := by decide +kernel
set_option maxRecDepth 100000 in
theorem wX2_isMissing : x_okM 27 mX2_isMissing = true := by decide +kernel
set_option maxRecDepth 100000 in
theorem oX2_remove : x_okL mX2_remove 0 mX2_remove.2.2.2.2 = true := by decide +kernel
set_option maxRecDepth 100000 in
theorem wX2_remove : x_okM 28 mX2_remove = true := by decide +kernel
set_option maxRecDepth 100000 in
theorem oX2_renew : x_okL mX2_renew 0 mX2_renew.2.2.2.2 = true := by decide +kernel
set_option maxRecDepth 100000 in
theorem wX2_renew : x_okM 29 mX2_renew = true := by decide +kernel
set_option maxRecDepth 100000 in
theorem oX2_holds : x_okL mX2_holds 0 mX2_holds.2.2.2.2 = true := by decide +kernel
set_option maxRecDepth 100000 in
theorem wX2_holds : x_okM 30 mX2_holds = true := by decide +kernel
set_option maxRecDepth 100000 in
theorem oX2_holdsRun : x_okL mX2_holdsRun 0 mX2_holdsRun.2.2.2.2 = true := by decide +kernel
set_option maxRecDepth 100000 in
theorem wX2_holdsRun : x_okM 31 mX2_holdsRun = true := by decide +kernel
set_option maxRecDepth 100000 in
theorem oX2_read : x_okL mX2_read 0 mX2_read.2.2.2.2 = true := by decide +kernel
set_option maxRecDepth 100000 in
theorem wX2_read : x_okM 32 mX2_read = true := by decide +kernel
set_option maxRecDepth 100000 in
theorem oX2_write : x_okL mX2_write 0 mX2_write.2.2.2.2 = true := by decide +kernel
set_option maxRecDepth 100000 in
theorem wX2_write : x_okM 33 mX2_write = true := by decide +kernel
set_option maxRecDepth 100000 in
theorem oX2_take : x_okL mX2_take 0 mX2_take.2.2.2.2 = true := by decide +kernel
set_option maxRecDepth 100000 in
theorem wX2_take : x_okM 34 mX2_take = true := by decide +kernel
set_option maxRecDepth 100000 in
theorem oX2_sum : x_okL mX2_sum 0 mX2_sum.2.2.2.2 = true := by decide +kernel
set_option maxRecDepth 100000 in
theorem wX2_sum : x_okM 35 mX2_sum = true := by decide +kernel
set_option maxRecDepth 100000 in
theorem oX2_isAllWithin : x_okL mX2_isAllWithin 0 mX2_isAllWithin.2.2.2.2 = true := by decide +kernel
set_option maxRecDepth 100000 in
theorem wX2_isAllWithin : x_okM 36 mX2_isAllWithin = true := by decide +kernel
set_option maxRecDepth 100000 in
theorem oX2_firstLess : x_okL mX2_firstLess 0 mX2_firstLess.2.2.2.2 = true := by decide +kernel
set_option maxRecDepth 100000 in
theorem wX2_firstLess : x_okM 37 mX2_firstLess = true := by decide +kernel
set_option maxRecDepth 100000 in
theorem oX2_mixedInto : x_okL mX2_mixedInto 0 mX2_mixedInto.2.2.2.2 = true := by decide +kernel
set_option maxRecDepth 100000 in
theorem wX2_mixedInto : x_okM 38 mX2_mixedInto = true := by decide +kernel
set_option maxRecDepth 100000 in
theorem oX3_init : x_okL mX3_init 0 mX3_init.2.2.2.2 = true := by decide +kernel
set_option maxRecDepth 100000 in
theorem wX3_init : x_okM 39 mX3_init = true := by decide +kernel
set_option maxRecDepth 100000 in
theorem oX3_begin : x_okL mX3_begin 0 mX3_begin.2.2.2.2 = true := by decide +kernel
set_option maxRecDepth 100000 in
theorem wX3_begin : x_okM 40 mX3_begin = true := by decide +kernel
set_option maxRecDepth 100000 in
theorem oX3_forget : x_okL mX3_forget 0 mX3_forget.2.2.2.2 = true := by decide +kernel
set_option maxRecDepth 100000 in
theorem wX3_forget : x_okM 41 mX3_forget = true := by decide +kernel
set_option maxRecDepth 100000 in
theorem oX3_isForgotten : x_okL mX3_isForgotten 0 mX3_isForgotten.2.2.2.2 = true := by decide +kernel
set_option maxRecDepth 100000 in
theorem wX3_isForgotten : x_okM 42 mX3_isForgotten = true := by decide +kernel
set_option maxRecDepth 100000 in
theorem oX3_done : x_okL mX3_done 0 mX3_done.2.2.2.2 = true := by decide +kernel
set_option maxRecDepth 100000 in
theorem wX3_done : x_okM 43 mX3_done = true := by decide +kernel
set_option maxRecDepth 100000 in
theorem oX3_now : x_okL mX3_now 0 mX3_now.2.2.2.2 = true := by decide +kernel
set_option maxRecDepth 100000 in
theorem wX3_now : x_okM 44 mX3_now = true := by decide +kernel
set_option maxRecDepth 100000 in
theorem oX3_first : x_okL mX3_first 0 mX3_first.2.2.2.2 = true := by decide +kernel
set_option maxRecDepth 100000 in
theorem wX3_first : x_okM 45 mX3_first = true := by decide +kernel
set_option maxRecDepth 100000 in
theorem oX3_spent : x_okL mX3_spent 0 mX3_spent.2.2.2.2 = true := by decide +kernel
set_option maxRecDepth 100000 in
theorem wX3_spent : x_okM 46 mX3_spent = true := by decide +kernel
set_option maxRecDepth 100000 in
theorem oX3_hasRoom : x_okL mX3_hasRoom 0 mX3_hasRoom.2.2.2.2 = true := by decide +kernel
set_option maxRecDepth 100000 in
theorem wX3_hasRoom : x_okM 47 mX3_hasRoom = true := by decide +kernel
set_option maxRecDepth 100000 in
theorem oX3_pass : x_okL mX3_pass 0 mX3_pass.2.2.2.2 = true := by decide +kernel
set_option maxRecDepth 100000 in
theorem wX3_pass : x_okM 48 mX3_pass = true := by decide +kernel
set_option maxRecDepth 100000 in
theorem oX3_turnBy : x_okL mX3_turnBy 0 mX3_turnBy.2.2.2.2 = true := by decide +kernel
set_option maxRecDepth 100000 in
theorem wX3_turnBy : x_okM 49 mX3_turnBy = true := by decide +kernel
set_option maxRecDepth 100000 in
theorem oX3_rewind : x_okL mX3_rewind 0 mX3_rewind.2.2.2.2 = true := by decide +kernel
set_option maxRecDepth 100000 in
theorem wX3_rewind : x_okM 50 mX3_rewind = true := by decide +kernel
set_option maxRecDepth 100000 in
theorem oX3_become : x_okL mX3_become 0 mX3_become.2.2.2.2 = true := by decide +kernel
set_option maxRecDepth 100000 in
theorem wX3_become : x_okM 51 mX3_become = true := by decide +kernel
set_option maxRecDepth 100000 in
theorem oX3_note : x_okL mX3_note 0 mX3_note.2.2.2.2 = true := by decide +kernel
set_option maxRecDepth 100000 in
theorem wX3_note : x_okM 52 mX3_note = true := by decide +kernel
set_option maxRecDepth 100000 in
theorem oX4_init : x_okL mX4_init 0 mX4_init.2.2.2.2 = true := by decide +kernel
set_option maxRecDepth 100000 in
theorem wX4_init : x_okM 53 mX4_init = true := by decide +kernel
set_option maxRecDepth 100000 in
theorem oX4_faultOf : x_okL mX4_faultOf 0 mX4_faultOf.2.2.2.2 = true := by decide +kernel
set_option maxRecDepth 100000 in
theorem wX4_faultOf : x_okM 54 mX4_faultOf = true := by decide +kernel
set_option maxRecDepth 100000 in
theorem oX4_build : x_okL mX4_build 0 mX4_build.2.2.2.2 = true := by decide +kernel
set_option maxRecDepth 100000 in
theorem wX4_build : x_okM 55 mX4_build = true := by decide +kernel
set_option maxRecDepth 100000 in
theorem oX4_readLight : x_okL mX4_readLight 0 mX4_readLight.2.2.2.2 = true := by decide +kernel
set_option maxRecDepth 100000 in
theorem wX4_readLight : x_okM 56 mX4_readLight = true := by decide +kernel
set_option maxRecDepth 100000 in
theorem oX4_skipBlanks : x_okL mX4_skipBlanks 0 mX4_skipBlanks.2.2.2.2 = true := by decide +kernel
set_option maxRecDepth 100000 in
theorem wX4_skipBlanks : x_okM 57 mX4_skipBlanks = true := by decide +kernel
set_option maxRecDepth 100000 in
theorem oX4_readDomeLetter : x_okL mX4_readDomeLetter 0 mX4_readDomeLetter.2.2.2.2 = true := by decide +kernel
set_option maxRecDepth 100000 in
theorem wX4_readDomeLetter : x_okM 58 mX4_readDomeLetter = true := by decide +kernel
set_option maxRecDepth 100000 in
theorem oX4_kindLetter : x_okL mX4_kindLetter 0 mX4_kindLetter.2.2.2.2 = true := by decide +kernel
set_option maxRecDepth 100000 in
theorem wX4_kindLetter : x_okM 59 mX4_kindLetter = true := by decide +kernel
set_option maxRecDepth 100000 in
theorem oX4_placeFigures : x_okL mX4_placeFigures 0 mX4_placeFigures.2.2.2.2 = true := by decide +kernel
set_option maxRecDepth 100000 in
theorem wX4_placeFigures : x_okM 60 mX4_placeFigures = true := by decide +kernel
set_option maxRecDepth 100000 in
theorem oX4_figure : x_okL mX4_figure 0 mX4_figure.2.2.2.2 = true := by decide +kernel
set_option maxRecDepth 100000 in
theorem wX4_figure : x_okM 61 mX4_figure = true := by decide +kernel
set_option maxRecDepth 100000 in
theorem oX4_goOnIf : x_okL mX4_goOnIf 0 mX4_goOnIf.2.2.2.2 = true := by decide +kernel
set_option maxRecDepth 100000 in
theorem wX4_goOnIf : x_okM 62 mX4_goOnIf = true := by decide +kernel
set_option maxRecDepth 100000 in
theorem oX5_init : x_okL mX5_init 0 mX5_init.2.2.2.2 = true := by decide +kernel
set_option maxRecDepth 100000 in
theorem wX5_init : x_okM 63 mX5_init = true := by decide +kernel
set_option maxRecDepth 100000 in
theorem oX5_whole : x_okL mX5_whole 0 mX5_whole.2.2.2.2 = true := by decide +kernel
set_option maxRecDepth 100000 in
theorem wX5_whole : x_okM 64 mX5_whole = true := by decide +kernel
