/-! what a callee is known for -/
theorem nk_B_open : zw_YV ny_B_open nc_B_open 7 (some .int) 4 := ⟨⟨nw_192, nw_1, by decide +kernel, by decide +kernel, by decide +kernel⟩, nw_190, nw_191⟩
theorem nk_B_refusalOfChange : zw_YV ny_B_refusalOfChange nc_B_refusalOfChange 1 (some .int) 0 := ⟨⟨nw_196, nw_1, by decide +kernel, by decide +kernel, by decide +kernel⟩, nw_195, (List.mem_append_left _ (List.mem_of_getElem? (i := 0) (by decide +kernel)))⟩
theorem nk_B_isCurrency : zw_YS ny_B_isCurrency nc_B_isCurrency 1 (some .boolean) 1 := ⟨⟨nw_199, nw_1, by decide +kernel, by decide +kernel, by decide +kernel⟩, nw_198⟩
theorem nk_B_isWithin : zw_YS ny_B_isWithin nc_B_isWithin 3 (some .boolean) 3 := ⟨⟨nw_202, nw_1, by decide +kernel, by decide +kernel, by decide +kernel⟩, nw_201⟩
theorem nk_C_isBasis : zw_YS ny_C_isBasis nc_C_isBasis 1 (some .boolean) 1 := ⟨⟨nw_205, nw_8, by decide +kernel, by decide +kernel, by decide +kernel⟩, nw_204⟩
theorem nk_B_bitOf : zw_YS ny_B_bitOf nc_B_bitOf 1 (some .int) 1 := ⟨⟨nw_209, nw_1, by decide +kernel, by decide +kernel, by decide +kernel⟩, nw_208⟩
theorem nk_D_writeTransaction : zw_YV ny_D_writeTransaction nc_D_writeTransaction 2 (some .boolean) 1 := ⟨⟨nw_213, nw_3, by decide +kernel, by decide +kernel, by decide +kernel⟩, nw_211, nw_212⟩
theorem nk_I_bitCount : zw_YS ny_I_bitCount nc_I_bitCount 1 (some .int) 1 := ⟨⟨nw_216, nw_9, by decide +kernel, by decide +kernel, by decide +kernel⟩, nw_215⟩
theorem nk_D_writeLines : zw_YV ny_D_writeLines nc_D_writeLines 4 (some .boolean) 2 := ⟨⟨nw_223, nw_3, by decide +kernel, by decide +kernel, by decide +kernel⟩, nw_221, nw_222⟩
theorem nk_D_makeCheckpoint : zw_YV ny_D_makeCheckpoint nc_D_makeCheckpoint 3 (some .boolean) 0 := ⟨⟨nw_227, nw_3, by decide +kernel, by decide +kernel, by decide +kernel⟩, nw_226, (List.mem_append_left _ (List.mem_of_getElem? (i := 1) (by decide +kernel)))⟩
theorem nk_D_writeOnce : zw_YV ny_D_writeOnce nc_D_writeOnce 1 (some .boolean) 0 := ⟨⟨nw_231, nw_3, by decide +kernel, by decide +kernel, by decide +kernel⟩, nw_230, (List.mem_append_left _ (List.mem_of_getElem? (i := 2) (by decide +kernel)))⟩
theorem nk_B_pay : zw_YV ny_B_pay nc_B_pay 7 (some .int) 3 := ⟨⟨nw_235, nw_1, by decide +kernel, by decide +kernel, by decide +kernel⟩, nw_233, nw_234⟩
theorem nk_B_isPayable : zw_YV ny_B_isPayable nc_B_isPayable 5 (some .boolean) 2 := ⟨⟨nw_239, nw_1, by decide +kernel, by decide +kernel, by decide +kernel⟩, nw_238, (List.mem_append_left _ (List.mem_of_getElem? (i := 3) (by decide +kernel)))⟩
theorem nk_B_isParty : zw_YV ny_B_isParty nc_B_isParty 2 (some .boolean) 1 := ⟨⟨nw_243, nw_1, by decide +kernel, by decide +kernel, by decide +kernel⟩, nw_242, (List.mem_append_left _ (List.mem_of_getElem? (i := 4) (by decide +kernel)))⟩
theorem nk_B_accountOf : zw_YV ny_B_accountOf nc_B_accountOf 2 (some (.object "DayEndBank$Account")) 1 := ⟨⟨nw_247, nw_1, by decide +kernel, by decide +kernel, by decide +kernel⟩, nw_246, (List.mem_append_left _ (List.mem_of_getElem? (i := 5) (by decide +kernel)))⟩
theorem nk_B_isAmount : zw_YS ny_B_isAmount nc_B_isAmount 1 (some .boolean) 1 := ⟨⟨nw_250, nw_1, by decide +kernel, by decide +kernel, by decide +kernel⟩, nw_249⟩
theorem nk_A_spendable : zw_YV ny_A_spendable nc_A_spendable 1 (some .long) 0 := ⟨⟨nw_254, nw_4, by decide +kernel, by decide +kernel, by decide +kernel⟩, nw_252, nw_253⟩
theorem nk_B_transfer : zw_YV ny_B_transfer nc_B_transfer 4 none 3 := ⟨⟨nw_258, nw_1, by decide +kernel, by decide +kernel, by decide +kernel⟩, nw_257, (List.mem_append_left _ (List.mem_of_getElem? (i := 6) (by decide +kernel)))⟩
theorem nk_B_hold : zw_YV ny_B_hold nc_B_hold 6 (some .int) 2 := ⟨⟨nw_262, nw_1, by decide +kernel, by decide +kernel, by decide +kernel⟩, nw_260, nw_261⟩
theorem nk_B_leastFreeHold : zw_YV ny_B_leastFreeHold nc_B_leastFreeHold 2 (some .int) 0 := ⟨⟨nw_266, nw_1, by decide +kernel, by decide +kernel, by decide +kernel⟩, nw_265, (List.mem_append_left _ (List.mem_of_getElem? (i := 7) (by decide +kernel)))⟩
theorem nk_H_begin : zw_YV ny_H_begin nc_H_begin 3 none 2 := ⟨⟨nw_270, nw_5, by decide +kernel, by decide +kernel, by decide +kernel⟩, nw_268, nw_269⟩
theorem nk_B_release : zw_YV ny_B_release nc_B_release 4 (some .int) 1 := ⟨⟨nw_274, nw_1, by decide +kernel, by decide +kernel, by decide +kernel⟩, nw_272, nw_273⟩
theorem nk_B_standingHold : zw_YV ny_B_standingHold nc_B_standingHold 2 (some (.object "DayEndBank$Hold")) 1 := ⟨⟨nw_278, nw_1, by decide +kernel, by decide +kernel, by decide +kernel⟩, nw_277, (List.mem_append_left _ (List.mem_of_getElem? (i := 8) (by decide +kernel)))⟩
theorem nk_H_end : zw_YV ny_H_end nc_H_end 1 none 0 := ⟨⟨nw_282, nw_5, by decide +kernel, by decide +kernel, by decide +kernel⟩, nw_280, nw_281⟩
theorem nk_B_settle : zw_YV ny_B_settle nc_B_settle 8 (some .int) 3 := ⟨⟨nw_286, nw_1, by decide +kernel, by decide +kernel, by decide +kernel⟩, nw_284, nw_285⟩
theorem nk_B_order : zw_YV ny_B_order nc_B_order 8 (some .int) 4 := ⟨⟨nw_290, nw_1, by decide +kernel, by decide +kernel, by decide +kernel⟩, nw_288, nw_289⟩
theorem nk_O_make : zw_YV ny_O_make nc_O_make 5 none 4 := ⟨⟨nw_294, nw_6, by decide +kernel, by decide +kernel, by decide +kernel⟩, nw_292, nw_293⟩
theorem nk_B_rest : zw_YV ny_B_rest nc_B_rest 3 (some .int) 1 := ⟨⟨nw_298, nw_1, by decide +kernel, by decide +kernel, by decide +kernel⟩, nw_296, nw_297⟩
theorem nk_R_isRest : zw_YV ny_R_isRest nc_R_isRest 3 (some .boolean) 1 := ⟨⟨nw_302, nw_2, by decide +kernel, by decide +kernel, by decide +kernel⟩, nw_300, nw_301⟩
theorem nk_R_wasMade : zw_YV ny_R_wasMade nc_R_wasMade 3 (some .boolean) 1 := ⟨⟨nw_306, nw_2, by decide +kernel, by decide +kernel, by decide +kernel⟩, nw_305, (List.mem_append_left _ (List.mem_of_getElem? (i := 9) (by decide +kernel)))⟩
theorem nk_B_isInLaterMonth : zw_YV ny_B_isInLaterMonth nc_B_isInLaterMonth 3 (some .boolean) 1 := ⟨⟨nw_310, nw_1, by decide +kernel, by decide +kernel, by decide +kernel⟩, nw_309, (List.mem_append_left _ (List.mem_of_getElem? (i := 10) (by decide +kernel)))⟩
theorem nk_C_monthAndDay : zw_YS ny_C_monthAndDay nc_C_monthAndDay 10 (some .int) 1 := ⟨⟨nw_313, nw_8, by decide +kernel, by decide +kernel, by decide +kernel⟩, nw_312⟩
theorem nk_T_floorDiv : zw_YS ny_T_floorDiv nc_T_floorDiv 3 (some .int) 2 := ⟨⟨nw_317, nw_10, by decide +kernel, by decide +kernel, by decide +kernel⟩, nw_316⟩
theorem nk_T_floorMod : zw_YS ny_T_floorMod nc_T_floorMod 3 (some .int) 2 := ⟨⟨nw_320, nw_10, by decide +kernel, by decide +kernel, by decide +kernel⟩, nw_319⟩
theorem nk_C_monthIn : zw_YS ny_C_monthIn nc_C_monthIn 1 (some .int) 1 := ⟨⟨nw_325, nw_8, by decide +kernel, by decide +kernel, by decide +kernel⟩, nw_324⟩
theorem nk_R_isFull : zw_YV ny_R_isFull nc_R_isFull 1 (some .boolean) 0 := ⟨⟨nw_329, nw_2, by decide +kernel, by decide +kernel, by decide +kernel⟩, nw_327, nw_328⟩
theorem nk_R_add : zw_YV ny_R_add nc_R_add 2 none 1 := ⟨⟨nw_333, nw_2, by decide +kernel, by decide +kernel, by decide +kernel⟩, nw_331, nw_332⟩
theorem nk_B_run : zw_YV ny_B_run nc_B_run 3 (some .int) 1 := ⟨⟨nw_338, nw_1, by decide +kernel, by decide +kernel, by decide +kernel⟩, nw_336, nw_337⟩
theorem nk_B_makeDayEnd : zw_YV ny_B_makeDayEnd nc_B_makeDayEnd 2 (some .boolean) 0 := ⟨⟨nw_342, nw_1, by decide +kernel, by decide +kernel, by decide +kernel⟩, nw_341, (List.mem_append_left _ (List.mem_of_getElem? (i := 11) (by decide +kernel)))⟩
theorem nk_B_makeStep : zw_YV ny_B_makeStep nc_B_makeStep 2 (some .boolean) 1 := ⟨⟨nw_346, nw_1, by decide +kernel, by decide +kernel, by decide +kernel⟩, nw_345, (List.mem_append_left _ (List.mem_of_getElem? (i := 12) (by decide +kernel)))⟩
theorem nk_B_planOrders : zw_YV ny_B_planOrders nc_B_planOrders 6 none 1 := ⟨⟨nw_350, nw_1, by decide +kernel, by decide +kernel, by decide +kernel⟩, nw_349, (List.mem_append_left _ (List.mem_of_getElem? (i := 13) (by decide +kernel)))⟩
theorem nk_R_dueDate : zw_YV ny_R_dueDate nc_R_dueDate 7 (some .int) 2 := ⟨⟨nw_354, nw_2, by decide +kernel, by decide +kernel, by decide +kernel⟩, nw_352, nw_353⟩
theorem nk_C_dayIn : zw_YS ny_C_dayIn nc_C_dayIn 1 (some .int) 1 := ⟨⟨nw_358, nw_8, by decide +kernel, by decide +kernel, by decide +kernel⟩, nw_357⟩
theorem nk_T_min : zw_YS ny_T_min nc_T_min 2 (some .int) 2 := ⟨⟨nw_361, nw_10, by decide +kernel, by decide +kernel, by decide +kernel⟩, nw_360⟩
theorem nk_B_writeStep : zw_YV ny_B_writeStep nc_B_writeStep 5 (some .boolean) 1 := ⟨⟨nw_366, nw_1, by decide +kernel, by decide +kernel, by decide +kernel⟩, nw_365, (List.mem_append_left _ (List.mem_of_getElem? (i := 14) (by decide +kernel)))⟩
theorem nk_B_carryOutOrders : zw_YV ny_B_carryOutOrders nc_B_carryOutOrders 3 none 0 := ⟨⟨nw_371, nw_1, by decide +kernel, by decide +kernel, by decide +kernel⟩, nw_370, (List.mem_append_left _ (List.mem_of_getElem? (i := 15) (by decide +kernel)))⟩
theorem nk_C_dayCount : zw_YS ny_C_dayCount nc_C_dayCount 3 (some .int) 3 := ⟨⟨nw_374, nw_8, by decide +kernel, by decide +kernel, by decide +kernel⟩, nw_373⟩
theorem nk_C_countByMonths : zw_YS ny_C_countByMonths nc_C_countByMonths 6 (some .int) 2 := ⟨⟨nw_377, nw_8, by decide +kernel, by decide +kernel, by decide +kernel⟩, nw_376⟩
theorem nk_A_accrue : zw_YV ny_A_accrue nc_A_accrue 2 none 1 := ⟨⟨nw_385, nw_4, by decide +kernel, by decide +kernel, by decide +kernel⟩, nw_383, nw_384⟩
theorem nk_C_isLastOfMonth : zw_YS ny_C_isLastOfMonth nc_C_isLastOfMonth 1 (some .boolean) 1 := ⟨⟨nw_388, nw_8, by decide +kernel, by decide +kernel, by decide +kernel⟩, nw_387⟩
theorem nk_A_takeInterest : zw_YV ny_A_takeInterest nc_A_takeInterest 5 (some .long) 0 := ⟨⟨nw_392, nw_4, by decide +kernel, by decide +kernel, by decide +kernel⟩, nw_390, nw_391⟩
theorem nk_C_yearOf : zw_YS ny_C_yearOf nc_C_yearOf 1 (some .int) 1 := ⟨⟨nw_396, nw_8, by decide +kernel, by decide +kernel, by decide +kernel⟩, nw_395⟩
theorem nk_A_nearest : zw_YS ny_A_nearest nc_A_nearest 10 (some .long) 2 := ⟨⟨nw_399, nw_4, by decide +kernel, by decide +kernel, by decide +kernel⟩, nw_398⟩
theorem nk_T_floorDivL : zw_YS ny_T_floorDivL nc_T_floorDivL 6 (some .long) 2 := ⟨⟨nw_402, nw_10, by decide +kernel, by decide +kernel, by decide +kernel⟩, nw_401⟩
theorem nk_B_fuse : zw_YV ny_B_fuse nc_B_fuse 2 (some .boolean) 1 := ⟨⟨nw_407, nw_1, by decide +kernel, by decide +kernel, by decide +kernel⟩, nw_405, nw_406⟩
theorem nk_B_restart : zw_YV ny_B_restart nc_B_restart 1 (some .int) 0 := ⟨⟨nw_411, nw_1, by decide +kernel, by decide +kernel, by decide +kernel⟩, nw_409, nw_410⟩
theorem nk_B_balance : zw_YV ny_B_balance nc_B_balance 3 (some .long) 1 := ⟨⟨nw_415, nw_1, by decide +kernel, by decide +kernel, by decide +kernel⟩, nw_413, nw_414⟩
theorem nk_B_shownAccount : zw_YV ny_B_shownAccount nc_B_shownAccount 2 (some (.object "DayEndBank$Account")) 1 := ⟨⟨nw_419, nw_1, by decide +kernel, by decide +kernel, by decide +kernel⟩, nw_418, (List.mem_append_left _ (List.mem_of_getElem? (i := 16) (by decide +kernel)))⟩
theorem nk_B_available : zw_YV ny_B_available nc_B_available 3 (some .long) 1 := ⟨⟨nw_423, nw_1, by decide +kernel, by decide +kernel, by decide +kernel⟩, nw_421, nw_422⟩
theorem nk_B_accrued : zw_YV ny_B_accrued nc_B_accrued 3 (some .long) 1 := ⟨⟨nw_427, nw_1, by decide +kernel, by decide +kernel, by decide +kernel⟩, nw_425, nw_426⟩
theorem nk_B_mark : zw_YV ny_B_mark nc_B_mark 3 (some .int) 1 := ⟨⟨nw_431, nw_1, by decide +kernel, by decide +kernel, by decide +kernel⟩, nw_429, nw_430⟩
theorem nk_B_ledger : zw_YV ny_B_ledger nc_B_ledger 3 (some .long) 2 := ⟨⟨nw_435, nw_1, by decide +kernel, by decide +kernel, by decide +kernel⟩, nw_433, nw_434⟩
theorem nk_B_sumOfBalances : zw_YV ny_B_sumOfBalances nc_B_sumOfBalances 5 (some .long) 1 := ⟨⟨nw_439, nw_1, by decide +kernel, by decide +kernel, by decide +kernel⟩, nw_438, (List.mem_append_left _ (List.mem_of_getElem? (i := 17) (by decide +kernel)))⟩
theorem nk_B_missed : zw_YV ny_B_missed nc_B_missed 2 (some .int) 1 := ⟨⟨nw_443, nw_1, by decide +kernel, by decide +kernel, by decide +kernel⟩, nw_441, nw_442⟩
theorem nk_B_today : zw_YV ny_B_today nc_B_today 1 (some .int) 0 := ⟨⟨nw_447, nw_1, by decide +kernel, by decide +kernel, by decide +kernel⟩, nw_445, nw_446⟩
theorem nk_B_count : zw_YV ny_B_count nc_B_count 4 (some .int) 3 := ⟨⟨nw_451, nw_1, by decide +kernel, by decide +kernel, by decide +kernel⟩, nw_449, nw_450⟩
theorem nk_B_writes : zw_YV ny_B_writes nc_B_writes 1 (some .int) 0 := ⟨⟨nw_456, nw_1, by decide +kernel, by decide +kernel, by decide +kernel⟩, nw_454, nw_455⟩
theorem nk_B_lines : zw_YV ny_B_lines nc_B_lines 1 (some .int) 0 := ⟨⟨nw_460, nw_1, by decide +kernel, by decide +kernel, by decide +kernel⟩, nw_458, nw_459⟩
theorem nk_M_open : zw_YV ny_M_open nc_M_open 5 (some .int) 4 := ⟨⟨nw_564, nw_7, by decide +kernel, by decide +kernel, by decide +kernel⟩, nw_562, nw_563⟩
theorem nk_M_shut : zw_YV ny_M_shut nc_M_shut 1 (some .int) 0 := ⟨⟨nw_568, nw_7, by decide +kernel, by decide +kernel, by decide +kernel⟩, nw_567, (List.mem_append_left _ (List.mem_of_getElem? (i := 18) (by decide +kernel)))⟩
theorem nk_M_comes : zw_YV ny_M_comes nc_M_comes 5 (some .boolean) 2 := ⟨⟨nw_573, nw_7, by decide +kernel, by decide +kernel, by decide +kernel⟩, nw_572, (List.mem_append_left _ (List.mem_of_getElem? (i := 19) (by decide +kernel)))⟩
theorem nk_M_afford : zw_YV ny_M_afford nc_M_afford 2 (some .boolean) 1 := ⟨⟨nw_577, nw_7, by decide +kernel, by decide +kernel, by decide +kernel⟩, nw_576, (List.mem_append_left _ (List.mem_of_getElem? (i := 20) (by decide +kernel)))⟩
theorem nk_M_spend : zw_YV ny_M_spend nc_M_spend 2 none 1 := ⟨⟨nw_581, nw_7, by decide +kernel, by decide +kernel, by decide +kernel⟩, nw_580, (List.mem_append_left _ (List.mem_of_getElem? (i := 21) (by decide +kernel)))⟩
theorem nk_M_pay : zw_YV ny_M_pay nc_M_pay 4 (some .int) 3 := ⟨⟨nw_585, nw_7, by decide +kernel, by decide +kernel, by decide +kernel⟩, nw_583, nw_584⟩
theorem nk_M_pair : zw_YV ny_M_pair nc_M_pair 4 (some .boolean) 2 := ⟨⟨nw_589, nw_7, by decide +kernel, by decide +kernel, by decide +kernel⟩, nw_588, (List.mem_append_left _ (List.mem_of_getElem? (i := 22) (by decide +kernel)))⟩
theorem nk_M_is : zw_YV ny_M_is nc_M_is 2 (some .boolean) 1 := ⟨⟨nw_593, nw_7, by decide +kernel, by decide +kernel, by decide +kernel⟩, nw_592, (List.mem_append_left _ (List.mem_of_getElem? (i := 23) (by decide +kernel)))⟩
theorem nk_M_amountOk : zw_YV ny_M_amountOk nc_M_amountOk 2 (some .boolean) 1 := ⟨⟨nw_597, nw_7, by decide +kernel, by decide +kernel, by decide +kernel⟩, nw_596, (List.mem_append_left _ (List.mem_of_getElem? (i := 24) (by decide +kernel)))⟩
theorem nk_M_free : zw_YV ny_M_free nc_M_free 5 (some .long) 1 := ⟨⟨nw_601, nw_7, by decide +kernel, by decide +kernel, by decide +kernel⟩, nw_600, (List.mem_append_left _ (List.mem_of_getElem? (i := 25) (by decide +kernel)))⟩
theorem nk_M_linesOf : zw_YV ny_M_linesOf nc_M_linesOf 3 (some .int) 2 := ⟨⟨nw_605, nw_7, by decide +kernel, by decide +kernel, by decide +kernel⟩, nw_604, (List.mem_append_left _ (List.mem_of_getElem? (i := 26) (by decide +kernel)))⟩
theorem nk_M_setOf : zw_YV ny_M_setOf nc_M_setOf 3 (some .int) 2 := ⟨⟨nw_609, nw_7, by decide +kernel, by decide +kernel, by decide +kernel⟩, nw_608, (List.mem_append_left _ (List.mem_of_getElem? (i := 27) (by decide +kernel)))⟩
theorem nk_M_transfer : zw_YV ny_M_transfer nc_M_transfer 4 none 3 := ⟨⟨nw_613, nw_7, by decide +kernel, by decide +kernel, by decide +kernel⟩, nw_612, (List.mem_append_left _ (List.mem_of_getElem? (i := 28) (by decide +kernel)))⟩
theorem nk_M_hold : zw_YV ny_M_hold nc_M_hold 4 (some .int) 2 := ⟨⟨nw_617, nw_7, by decide +kernel, by decide +kernel, by decide +kernel⟩, nw_615, nw_616⟩
theorem nk_M_release : zw_YV ny_M_release nc_M_release 2 (some .int) 1 := ⟨⟨nw_621, nw_7, by decide +kernel, by decide +kernel, by decide +kernel⟩, nw_619, nw_620⟩
theorem nk_M_stands : zw_YV ny_M_stands nc_M_stands 2 (some .boolean) 1 := ⟨⟨nw_625, nw_7, by decide +kernel, by decide +kernel, by decide +kernel⟩, nw_624, (List.mem_append_left _ (List.mem_of_getElem? (i := 29) (by decide +kernel)))⟩
theorem nk_M_settle : zw_YV ny_M_settle nc_M_settle 5 (some .int) 3 := ⟨⟨nw_629, nw_7, by decide +kernel, by decide +kernel, by decide +kernel⟩, nw_627, nw_628⟩
theorem nk_M_order : zw_YV ny_M_order nc_M_order 5 (some .int) 4 := ⟨⟨nw_633, nw_7, by decide +kernel, by decide +kernel, by decide +kernel⟩, nw_631, nw_632⟩
theorem nk_M_rest : zw_YV ny_M_rest nc_M_rest 2 (some .int) 1 := ⟨⟨nw_637, nw_7, by decide +kernel, by decide +kernel, by decide +kernel⟩, nw_635, nw_636⟩
theorem nk_M_resting : zw_YV ny_M_resting nc_M_resting 4 (some .boolean) 1 := ⟨⟨nw_641, nw_7, by decide +kernel, by decide +kernel, by decide +kernel⟩, nw_640, (List.mem_append_left _ (List.mem_of_getElem? (i := 30) (by decide +kernel)))⟩
theorem nk_M_later : zw_YV ny_M_later nc_M_later 3 (some .boolean) 1 := ⟨⟨nw_645, nw_7, by decide +kernel, by decide +kernel, by decide +kernel⟩, nw_644, (List.mem_append_left _ (List.mem_of_getElem? (i := 31) (by decide +kernel)))⟩
theorem nk_M_walk : zw_YV ny_M_walk nc_M_walk 4 none 1 := ⟨⟨nw_649, nw_7, by decide +kernel, by decide +kernel, by decide +kernel⟩, nw_648, (List.mem_append_left _ (List.mem_of_getElem? (i := 32) (by decide +kernel)))⟩
theorem nk_M_leap : zw_YS ny_M_leap nc_M_leap 1 (some .boolean) 1 := ⟨⟨nw_652, nw_7, by decide +kernel, by decide +kernel, by decide +kernel⟩, nw_651⟩
theorem nk_M_length : zw_YS ny_M_length nc_M_length 2 (some .int) 2 := ⟨⟨nw_655, nw_7, by decide +kernel, by decide +kernel, by decide +kernel⟩, nw_654⟩
theorem nk_M_run : zw_YV ny_M_run nc_M_run 3 (some .int) 1 := ⟨⟨nw_659, nw_7, by decide +kernel, by decide +kernel, by decide +kernel⟩, nw_657, nw_658⟩
theorem nk_M_dayEnd : zw_YV ny_M_dayEnd nc_M_dayEnd 2 (some .boolean) 0 := ⟨⟨nw_663, nw_7, by decide +kernel, by decide +kernel, by decide +kernel⟩, nw_662, (List.mem_append_left _ (List.mem_of_getElem? (i := 33) (by decide +kernel)))⟩
theorem nk_M_step : zw_YV ny_M_step nc_M_step 6 (some .boolean) 1 := ⟨⟨nw_667, nw_7, by decide +kernel, by decide +kernel, by decide +kernel⟩, nw_666, (List.mem_append_left _ (List.mem_of_getElem? (i := 34) (by decide +kernel)))⟩
theorem nk_M_paidOrders : zw_YV ny_M_paidOrders nc_M_paidOrders 6 (some .int) 1 := ⟨⟨nw_671, nw_7, by decide +kernel, by decide +kernel, by decide +kernel⟩, nw_670, (List.mem_append_left _ (List.mem_of_getElem? (i := 35) (by decide +kernel)))⟩
theorem nk_M_due : zw_YV ny_M_due nc_M_due 7 (some .boolean) 1 := ⟨⟨nw_675, nw_7, by decide +kernel, by decide +kernel, by decide +kernel⟩, nw_674, (List.mem_append_left _ (List.mem_of_getElem? (i := 36) (by decide +kernel)))⟩
theorem nk_M_grow : zw_YV ny_M_grow nc_M_grow 9 none 1 := ⟨⟨nw_679, nw_7, by decide +kernel, by decide +kernel, by decide +kernel⟩, nw_678, (List.mem_append_left _ (List.mem_of_getElem? (i := 37) (by decide +kernel)))⟩
theorem nk_M_days : zw_YV ny_M_days nc_M_days 8 (some .int) 3 := ⟨⟨nw_683, nw_7, by decide +kernel, by decide +kernel, by decide +kernel⟩, nw_682, (List.mem_append_left _ (List.mem_of_getElem? (i := 38) (by decide +kernel)))⟩
theorem nk_M_fuse : zw_YV ny_M_fuse nc_M_fuse 2 (some .boolean) 1 := ⟨⟨nw_689, nw_7, by decide +kernel, by decide +kernel, by decide +kernel⟩, nw_687, nw_688⟩
theorem nk_M_restart : zw_YV ny_M_restart nc_M_restart 1 (some .int) 0 := ⟨⟨nw_693, nw_7, by decide +kernel, by decide +kernel, by decide +kernel⟩, nw_691, nw_692⟩
theorem nk_M_balance : zw_YV ny_M_balance nc_M_balance 2 (some .long) 1 := ⟨⟨nw_697, nw_7, by decide +kernel, by decide +kernel, by decide +kernel⟩, nw_695, nw_696⟩
theorem nk_M_available : zw_YV ny_M_available nc_M_available 2 (some .long) 1 := ⟨⟨nw_701, nw_7, by decide +kernel, by decide +kernel, by decide +kernel⟩, nw_699, nw_700⟩
theorem nk_M_accrued : zw_YV ny_M_accrued nc_M_accrued 2 (some .long) 1 := ⟨⟨nw_705, nw_7, by decide +kernel, by decide +kernel, by decide +kernel⟩, nw_703, nw_704⟩
theorem nk_M_mark : zw_YV ny_M_mark nc_M_mark 2 (some .int) 1 := ⟨⟨nw_709, nw_7, by decide +kernel, by decide +kernel, by decide +kernel⟩, nw_707, nw_708⟩
theorem nk_M_ledger : zw_YV ny_M_ledger nc_M_ledger 6 (some .long) 2 := ⟨⟨nw_713, nw_7, by decide +kernel, by decide +kernel, by decide +kernel⟩, nw_711, nw_712⟩
theorem nk_M_missed : zw_YV ny_M_missed nc_M_missed 2 (some .int) 1 := ⟨⟨nw_717, nw_7, by decide +kernel, by decide +kernel, by decide +kernel⟩, nw_715, nw_716⟩
theorem nk_M_today : zw_YV ny_M_today nc_M_today 1 (some .int) 0 := ⟨⟨nw_721, nw_7, by decide +kernel, by decide +kernel, by decide +kernel⟩, nw_719, nw_720⟩
theorem nk_M_count : zw_YV ny_M_count nc_M_count 4 (some .int) 3 := ⟨⟨nw_725, nw_7, by decide +kernel, by decide +kernel, by decide +kernel⟩, nw_723, nw_724⟩
theorem nk_M_writes : zw_YV ny_M_writes nc_M_writes 1 (some .int) 0 := ⟨⟨nw_730, nw_7, by decide +kernel, by decide +kernel, by decide +kernel⟩, nw_728, nw_729⟩
theorem nk_M_lines : zw_YV ny_M_lines nc_M_lines 1 (some .int) 0 := ⟨⟨nw_734, nw_7, by decide +kernel, by decide +kernel, by decide +kernel⟩, nw_732, nw_733⟩
theorem zw_inB : ∀ w ∈ u_ws nR_B nT_B 11, w ∈ zw_big := by
  intro w hw
  obtain ⟨k, hk, rfl⟩ := List.mem_map.mp hw
  rw [List.mem_range] at hk
  rcases (show k = 0 ∨ k = 1 ∨ k = 2 ∨ k = 3 ∨ k = 4 ∨ k = 5 ∨ k = 6 ∨ k = 7 ∨ k = 8 ∨ k = 9 ∨ k = 10 by omega) with rfl | rfl | rfl | rfl | rfl | rfl | rfl | rfl | rfl | rfl | rfl
  · exact nw_166
  · exact nw_168
  · exact nw_170
  · exact nw_172
  · exact nw_174
  · exact nw_176
  · exact nw_178
  · exact nw_180
  · exact nw_182
  · exact nw_184
  · exact nw_186
theorem zw_inA : ∀ w ∈ u_ws nR_A nT_A 9, w ∈ zw_big := by
  intro w hw
  obtain ⟨k, hk, rfl⟩ := List.mem_map.mp hw
  rw [List.mem_range] at hk
  rcases (show k = 0 ∨ k = 1 ∨ k = 2 ∨ k = 3 ∨ k = 4 ∨ k = 5 ∨ k = 6 ∨ k = 7 ∨ k = 8 by omega) with rfl | rfl | rfl | rfl | rfl | rfl | rfl | rfl | rfl
  · exact nw_90
  · exact nw_92
  · exact nw_94
  · exact nw_96
  · exact nw_98
  · exact nw_100
  · exact nw_102
  · exact nw_104
  · exact nw_106
theorem zw_inH : ∀ w ∈ u_ws nR_H nT_H 2, w ∈ zw_big := by
  intro w hw
  obtain ⟨k, hk, rfl⟩ := List.mem_map.mp hw
  rw [List.mem_range] at hk
  rcases (show k = 0 ∨ k = 1 by omega) with rfl | rfl
  · exact nw_119
  · exact nw_121
theorem zw_inO : ∀ w ∈ u_ws nR_O nT_O 7, w ∈ zw_big := by
  intro w hw
  obtain ⟨k, hk, rfl⟩ := List.mem_map.mp hw
  rw [List.mem_range] at hk
  rcases (show k = 0 ∨ k = 1 ∨ k = 2 ∨ k = 3 ∨ k = 4 ∨ k = 5 ∨ k = 6 by omega) with rfl | rfl | rfl | rfl | rfl | rfl | rfl
  · exact nw_140
  · exact nw_142
  · exact nw_144
  · exact nw_146
  · exact nw_148
  · exact nw_150
  · exact nw_152
theorem zw_inR : ∀ w ∈ u_ws nR_R nT_R 2, w ∈ zw_big := by
  intro w hw
  obtain ⟨k, hk, rfl⟩ := List.mem_map.mp hw
  rw [List.mem_range] at hk
  rcases (show k = 0 ∨ k = 1 by omega) with rfl | rfl
  · exact nw_33
  · exact nw_35
theorem zw_inD : ∀ w ∈ u_ws nR_D nT_D 6, w ∈ zw_big := by
  intro w hw
  obtain ⟨k, hk, rfl⟩ := List.mem_map.mp hw
  rw [List.mem_range] at hk
  rcases (show k = 0 ∨ k = 1 ∨ k = 2 ∨ k = 3 ∨ k = 4 ∨ k = 5 by omega) with rfl | rfl | rfl | rfl | rfl | rfl
  · exact nw_56
  · exact nw_58
  · exact nw_60
  · exact nw_62
  · exact nw_64
  · exact nw_66
theorem zw_inM : ∀ w ∈ u_ws nR_M nT_M 31, w ∈ zw_big := by
  intro w hw
  obtain ⟨k, hk, rfl⟩ := List.mem_map.mp hw
  rw [List.mem_range] at hk
  rcases (show k = 0 ∨ k = 1 ∨ k = 2 ∨ k = 3 ∨ k = 4 ∨ k = 5 ∨ k = 6 ∨ k = 7 ∨ k = 8 ∨ k = 9 ∨ k = 10 ∨ k = 11 ∨ k = 12 ∨ k = 13 ∨ k = 14 ∨ k = 15 ∨ k = 16 ∨ k = 17 ∨ k = 18 ∨ k = 19 ∨ k = 20 ∨ k = 21 ∨ k = 22 ∨ k = 23 ∨ k = 24 ∨ k = 25 ∨ k = 26 ∨ k = 27 ∨ k = 28 ∨ k = 29 ∨ k = 30 by omega) with rfl | rfl | rfl | rfl | rfl | rfl | rfl | rfl | rfl | rfl | rfl | rfl | rfl | rfl | rfl | rfl | rfl | rfl | rfl | rfl | rfl | rfl | rfl | rfl | rfl | rfl | rfl | rfl | rfl | rfl | rfl
  · exact nw_498
  · exact nw_500
  · exact nw_502
  · exact nw_504
  · exact nw_506
  · exact nw_508
  · exact nw_510
  · exact nw_512
  · exact nw_514
  · exact nw_516
  · exact nw_518
  · exact nw_520
  · exact nw_522
  · exact nw_524
  · exact nw_526
  · exact nw_528
  · exact nw_530
  · exact nw_532
  · exact nw_534
  · exact nw_536
  · exact nw_538
  · exact nw_540
  · exact nw_542
  · exact nw_544
  · exact nw_546
  · exact nw_548
  · exact nw_550
  · exact nw_552
  · exact nw_554
  · exact nw_556
  · exact nw_558
