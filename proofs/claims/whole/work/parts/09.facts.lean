theorem p_X0_accountOf : zMp yX0_accountOf 2 2 := ⟨by decide +kernel, by decide +kernel, by decide +kernel, by decide⟩
theorem p_X0_spanglesAddUp : zMp yX0_spanglesAddUp 1 3 := ⟨by decide +kernel, by decide +kernel, by decide +kernel, by decide⟩
theorem p_X0_trunksAgree : zMp yX0_trunksAgree 1 3 := ⟨by decide +kernel, by decide +kernel, by decide +kernel, by decide⟩
theorem p_X0_actsAgree : zMp yX0_actsAgree 1 3 := ⟨by decide +kernel, by decide +kernel, by decide +kernel, by decide⟩
theorem p_X1_init : zMp yX1_init 0 2 := ⟨by decide +kernel, by decide +kernel, by decide +kernel, by decide⟩
theorem p_X1_kept : zMp yX1_kept 0 1 := ⟨by decide +kernel, by decide +kernel, by decide +kernel, by decide⟩
theorem p_X1_keep : zMp yX1_keep 1 2 := ⟨by decide +kernel, by decide +kernel, by decide +kernel, by decide⟩
theorem p_X1_mark : zMp yX1_mark 1 3 := ⟨by decide +kernel, by decide +kernel, by decide +kernel, by decide⟩
theorem p_X1_keepMark : zMp yX1_keepMark 0 1 := ⟨by decide +kernel, by decide +kernel, by decide +kernel, by decide⟩
theorem p_X1_backToMark : zMp yX1_backToMark 1 3 := ⟨by decide +kernel, by decide +kernel, by decide +kernel, by decide⟩
theorem p_X1_back : zMp yX1_back 1 2 := ⟨by decide +kernel, by decide +kernel, by decide +kernel, by decide⟩
theorem p_X1_forget : zMp yX1_forget 0 1 := ⟨by decide +kernel, by decide +kernel, by decide +kernel, by decide⟩
theorem p_X1_pageAt : zMp yX1_pageAt 1 2 := ⟨by decide +kernel, by decide +kernel, by decide +kernel, by decide⟩
theorem p_X2_init : zMp yX2_init 0 1 := ⟨by decide +kernel, by decide +kernel, by decide +kernel, by decide⟩
theorem p_X2_length : zMp yX2_length 0 1 := ⟨by decide +kernel, by decide +kernel, by decide +kernel, by decide⟩
theorem p_X2_errorAt : zMp yX2_errorAt 0 1 := ⟨by decide +kernel, by decide +kernel, by decide +kernel, by decide⟩
theorem p_X2_orders : zMp yX2_orders 0 1 := ⟨by decide +kernel, by decide +kernel, by decide +kernel, by decide⟩
theorem p_X2_kind : zMp yX2_kind 1 2 := ⟨by decide +kernel, by decide +kernel, by decide +kernel, by decide⟩
theorem p_X2_first : zMp yX2_first 1 2 := ⟨by decide +kernel, by decide +kernel, by decide +kernel, by decide⟩
theorem p_X2_second : zMp yX2_second 1 2 := ⟨by decide +kernel, by decide +kernel, by decide +kernel, by decide⟩
theorem p_X2_isFull : zMp yX2_isFull 0 1 := ⟨by decide +kernel, by decide +kernel, by decide +kernel, by decide⟩
theorem p_X2_add : zMp yX2_add 1 2 := ⟨by decide +kernel, by decide +kernel, by decide +kernel, by decide⟩
theorem p_X2_parse : zMp yX2_parse 0 1 := ⟨by decide +kernel, by decide +kernel, by decide +kernel, by decide⟩
theorem p_X2_isText : zMp yX2_isText 0 2 := ⟨by decide +kernel, by decide +kernel, by decide +kernel, by decide⟩
theorem p_X2_takeOrder : zMp yX2_takeOrder 0 5 := ⟨by decide +kernel, by decide +kernel, by decide +kernel, by decide⟩
theorem p_X2_isKind : zMp yX2_isKind 1 1 := ⟨by decide +kernel, by decide +kernel, by decide +kernel, by decide⟩
theorem p_X2_firstDigits : zMp yX2_firstDigits 1 1 := ⟨by decide +kernel, by decide +kernel, by decide +kernel, by decide⟩
theorem p_X2_secondDigits : zMp yX2_secondDigits 1 1 := ⟨by decide +kernel, by decide +kernel, by decide +kernel, by decide⟩
theorem p_X2_linkOf : zMp yX2_linkOf 1 1 := ⟨by decide +kernel, by decide +kernel, by decide +kernel, by decide⟩
theorem p_X2_next : zMp yX2_next 0 1 := ⟨by decide +kernel, by decide +kernel, by decide +kernel, by decide⟩
theorem p_X2_take : zMp yX2_take 1 2 := ⟨by decide +kernel, by decide +kernel, by decide +kernel, by decide⟩
theorem p_X2_takeNumber : zMp yX2_takeNumber 1 4 := ⟨by decide +kernel, by decide +kernel, by decide +kernel, by decide⟩
theorem p_X2_keep : zMp yX2_keep 3 4 := ⟨by decide +kernel, by decide +kernel, by decide +kernel, by decide⟩
theorem p_X3_carryOutAll : zMp yX3_carryOutAll 3 7 := ⟨by decide +kernel, by decide +kernel, by decide +kernel, by decide⟩
theorem p_X3_namesRightly : zMp yX3_namesRightly 4 4 := ⟨by decide +kernel, by decide +kernel, by decide +kernel, by decide⟩
theorem p_X3_isRefused : zMp yX3_isRefused 5 5 := ⟨by decide +kernel, by decide +kernel, by decide +kernel, by decide⟩
theorem p_X3_carryOut : zMp yX3_carryOut 4 4 := ⟨by decide +kernel, by decide +kernel, by decide +kernel, by decide⟩
theorem p_X4_addTrunk : zMp yX4_addTrunk 1 2 := ⟨by decide +kernel, by decide +kernel, by decide +kernel, by decide⟩
theorem p_X4_cellOf : zMp yX4_cellOf 2 2 := ⟨by decide +kernel, by decide +kernel, by decide +kernel, by decide⟩
theorem p_X4_putInto : zMp yX4_putInto 3 3 := ⟨by decide +kernel, by decide +kernel, by decide +kernel, by decide⟩
theorem p_X4_takeOut : zMp yX4_takeOut 2 6 := ⟨by decide +kernel, by decide +kernel, by decide +kernel, by decide⟩
theorem p_X4_placeInTrunk : zMp yX4_placeInTrunk 2 4 := ⟨by decide +kernel, by decide +kernel, by decide +kernel, by decide⟩
theorem p_X4_coatAt : zMp yX4_coatAt 3 3 := ⟨by decide +kernel, by decide +kernel, by decide +kernel, by decide⟩
theorem p_X4_putOnTrain : zMp yX4_putOnTrain 2 2 := ⟨by decide +kernel, by decide +kernel, by decide +kernel, by decide⟩
theorem p_X4_takeOffTrain : zMp yX4_takeOffTrain 1 4 := ⟨by decide +kernel, by decide +kernel, by decide +kernel, by decide⟩
theorem p_X4_trunkAt : zMp yX4_trunkAt 2 2 := ⟨by decide +kernel, by decide +kernel, by decide +kernel, by decide⟩
theorem p_X4_placeOnTrain : zMp yX4_placeOnTrain 2 3 := ⟨by decide +kernel, by decide +kernel, by decide +kernel, by decide⟩
theorem p_X5_init : zMp yX5_init 0 1 := ⟨by decide +kernel, by decide +kernel, by decide +kernel, by decide⟩
theorem p_X5_reason : zMp yX5_reason 0 1 := ⟨by decide +kernel, by decide +kernel, by decide +kernel, by decide⟩
theorem p_X5_detail : zMp yX5_detail 0 1 := ⟨by decide +kernel, by decide +kernel, by decide +kernel, by decide⟩
theorem p_X5_againstMore : zMp yX5_againstMore 2 3 := ⟨by decide +kernel, by decide +kernel, by decide +kernel, by decide⟩
theorem p_X5_againstWearing : zMp yX5_againstWearing 3 4 := ⟨by decide +kernel, by decide +kernel, by decide +kernel, by decide⟩
theorem p_X5_againstMending : zMp yX5_againstMending 3 4 := ⟨by decide +kernel, by decide +kernel, by decide +kernel, by decide⟩
theorem p_X5_againstSewingOn : zMp yX5_againstSewingOn 4 7 := ⟨by decide +kernel, by decide +kernel, by decide +kernel, by decide⟩
theorem p_X5_againstWidening : zMp yX5_againstWidening 3 5 := ⟨by decide +kernel, by decide +kernel, by decide +kernel, by decide⟩
theorem p_X5_againstPatching : zMp yX5_againstPatching 2 3 := ⟨by decide +kernel, by decide +kernel, by decide +kernel, by decide⟩
theorem p_X5_againstPacking : zMp yX5_againstPacking 3 4 := ⟨by decide +kernel, by decide +kernel, by decide +kernel, by decide⟩
theorem p_X5_againstUnpacking : zMp yX5_againstUnpacking 2 4 := ⟨by decide +kernel, by decide +kernel, by decide +kernel, by decide⟩
theorem p_X5_againstLoading : zMp yX5_againstLoading 2 3 := ⟨by decide +kernel, by decide +kernel, by decide +kernel, by decide⟩
theorem p_X5_againstUnloading : zMp yX5_againstUnloading 1 2 := ⟨by decide +kernel, by decide +kernel, by decide +kernel, by decide⟩
theorem p_X5_againstGoingOn : zMp yX5_againstGoingOn 2 5 := ⟨by decide +kernel, by decide +kernel, by decide +kernel, by decide⟩
theorem p_X5_isPackedAway : zMp yX5_isPackedAway 2 4 := ⟨by decide +kernel, by decide +kernel, by decide +kernel, by decide⟩
theorem p_X5_isTooSore : zMp yX5_isTooSore 2 4 := ⟨by decide +kernel, by decide +kernel, by decide +kernel, by decide⟩
theorem p_X5_lacksHours : zMp yX5_lacksHours 3 5 := ⟨by decide +kernel, by decide +kernel, by decide +kernel, by decide⟩
theorem p_X5_lacksThread : zMp yX5_lacksThread 2 4 := ⟨by decide +kernel, by decide +kernel, by decide +kernel, by decide⟩
theorem p_X5_isOpen : zMp yX5_isOpen 3 4 := ⟨by decide +kernel, by decide +kernel, by decide +kernel, by decide⟩
theorem p_X5_isLoaded : zMp yX5_isLoaded 2 4 := ⟨by decide +kernel, by decide +kernel, by decide +kernel, by decide⟩
theorem p_X5_tell : zMp yX5_tell 3 4 := ⟨by decide +kernel, by decide +kernel, by decide +kernel, by decide⟩
theorem p_X6_init : zMp yX6_init 0 1 := ⟨by decide +kernel, by decide +kernel, by decide +kernel, by decide⟩
theorem p_X6_at : zMp yX6_at 1 2 := ⟨by decide +kernel, by decide +kernel, by decide +kernel, by decide⟩
theorem p_X6_put : zMp yX6_put 2 3 := ⟨by decide +kernel, by decide +kernel, by decide +kernel, by decide⟩
theorem p_X6_add : zMp yX6_add 2 3 := ⟨by decide +kernel, by decide +kernel, by decide +kernel, by decide⟩
theorem p_X6_sum : zMp yX6_sum 2 5 := ⟨by decide +kernel, by decide +kernel, by decide +kernel, by decide⟩
theorem p_X6_copyFrom : zMp yX6_copyFrom 1 3 := ⟨by decide +kernel, by decide +kernel, by decide +kernel, by decide⟩
theorem p_X6_hasCoat : zMp yX6_hasCoat 1 2 := ⟨by decide +kernel, by decide +kernel, by decide +kernel, by decide⟩
theorem p_X6_hasAct : zMp yX6_hasAct 1 2 := ⟨by decide +kernel, by decide +kernel, by decide +kernel, by decide⟩
theorem p_X6_hasSeamstress : zMp yX6_hasSeamstress 1 2 := ⟨by decide +kernel, by decide +kernel, by decide +kernel, by decide⟩
theorem p_X6_hasTrunk : zMp yX6_hasTrunk 1 2 := ⟨by decide +kernel, by decide +kernel, by decide +kernel, by decide⟩
theorem p_X6_tornPanels : zMp yX6_tornPanels 0 1 := ⟨by decide +kernel, by decide +kernel, by decide +kernel, by decide⟩
theorem p_X6_tornFrom : zMp yX6_tornFrom 1 3 := ⟨by decide +kernel, by decide +kernel, by decide +kernel, by decide⟩
theorem p_X7_addSeamstress : zMp yX7_addSeamstress 1 2 := ⟨by decide +kernel, by decide +kernel, by decide +kernel, by decide⟩
theorem p_X7_store : zMp yX7_store 3 5 := ⟨by decide +kernel, by decide +kernel, by decide +kernel, by decide⟩
theorem p_X7_hoursFor : zMp yX7_hoursFor 1 1 := ⟨by decide +kernel, by decide +kernel, by decide +kernel, by decide⟩
theorem p_X7_threadFor : zMp yX7_threadFor 1 1 := ⟨by decide +kernel, by decide +kernel, by decide +kernel, by decide⟩
theorem p_X7_mend : zMp yX7_mend 3 3 := ⟨by decide +kernel, by decide +kernel, by decide +kernel, by decide⟩
theorem p_X7_sewOn : zMp yX7_sewOn 4 4 := ⟨by decide +kernel, by decide +kernel, by decide +kernel, by decide⟩
theorem p_X7_widen : zMp yX7_widen 3 3 := ⟨by decide +kernel, by decide +kernel, by decide +kernel, by decide⟩
theorem p_X7_patchLowest : zMp yX7_patchLowest 2 3 := ⟨by decide +kernel, by decide +kernel, by decide +kernel, by decide⟩
theorem p_X7_spend : zMp yX7_spend 3 3 := ⟨by decide +kernel, by decide +kernel, by decide +kernel, by decide⟩
theorem p_X8_show : zMp yX8_show 2 4 := ⟨by decide +kernel, by decide +kernel, by decide +kernel, by decide⟩
theorem p_X8_daysUntilTight : zMp yX8_daysUntilTight 2 6 := ⟨by decide +kernel, by decide +kernel, by decide +kernel, by decide⟩
theorem p_X8_letDaysGoBy : zMp yX8_letDaysGoBy 2 5 := ⟨by decide +kernel, by decide +kernel, by decide +kernel, by decide⟩
theorem p_X8_rest : zMp yX8_rest 1 3 := ⟨by decide +kernel, by decide +kernel, by decide +kernel, by decide⟩
theorem p_X8_grow : zMp yX8_grow 1 4 := ⟨by decide +kernel, by decide +kernel, by decide +kernel, by decide⟩
theorem p_X9_addCoat : zMp yX9_addCoat 2 3 := ⟨by decide +kernel, by decide +kernel, by decide +kernel, by decide⟩
theorem p_X9_addAct : zMp yX9_addAct 3 4 := ⟨by decide +kernel, by decide +kernel, by decide +kernel, by decide⟩
theorem p_X9_give : zMp yX9_give 3 4 := ⟨by decide +kernel, by decide +kernel, by decide +kernel, by decide⟩
theorem p_X9_addRips : zMp yX9_addRips 3 4 := ⟨by decide +kernel, by decide +kernel, by decide +kernel, by decide⟩
theorem p_X9_takeOff : zMp yX9_takeOff 3 4 := ⟨by decide +kernel, by decide +kernel, by decide +kernel, by decide⟩
theorem p_X9_hasGaps : zMp yX9_hasGaps 2 2 := ⟨by decide +kernel, by decide +kernel, by decide +kernel, by decide⟩
theorem p_X9_isTooSmall : zMp yX9_isTooSmall 3 3 := ⟨by decide +kernel, by decide +kernel, by decide +kernel, by decide⟩
theorem p_X9_isOpen : zMp yX9_isOpen 3 3 := ⟨by decide +kernel, by decide +kernel, by decide +kernel, by decide⟩
theorem p_X9_isOfAnother : zMp yX9_isOfAnother 3 4 := ⟨by decide +kernel, by decide +kernel, by decide +kernel, by decide⟩
theorem p_X9_bestFor : zMp yX9_bestFor 2 5 := ⟨by decide +kernel, by decide +kernel, by decide +kernel, by decide⟩
theorem p_X9_hoursByCount : zMp yX9_hoursByCount 3 6 := ⟨by decide +kernel, by decide +kernel, by decide +kernel, by decide⟩
theorem p_X9_hoursOneByOne : zMp yX9_hoursOneByOne 3 9 := ⟨by decide +kernel, by decide +kernel, by decide +kernel, by decide⟩
theorem p_X9_signOf : zMp yX9_signOf 2 2 := ⟨by decide +kernel, by decide +kernel, by decide +kernel, by decide⟩
theorem p_X10_init : zMp yX10_init 0 1 := ⟨by decide +kernel, by decide +kernel, by decide +kernel, by decide⟩
theorem p_X10_coat : zMp yX10_coat 1 2 := ⟨by decide +kernel, by decide +kernel, by decide +kernel, by decide⟩
theorem p_X10_act : zMp yX10_act 2 3 := ⟨by decide +kernel, by decide +kernel, by decide +kernel, by decide⟩
theorem p_X10_wear : zMp yX10_wear 2 3 := ⟨by decide +kernel, by decide +kernel, by decide +kernel, by decide⟩
theorem p_X10_rip : zMp yX10_rip 2 3 := ⟨by decide +kernel, by decide +kernel, by decide +kernel, by decide⟩
theorem p_X10_lose : zMp yX10_lose 2 3 := ⟨by decide +kernel, by decide +kernel, by decide +kernel, by decide⟩
theorem p_X10_coatOf : zMp yX10_coatOf 2 3 := ⟨by decide +kernel, by decide +kernel, by decide +kernel, by decide⟩
theorem p_X10_actOf : zMp yX10_actOf 2 3 := ⟨by decide +kernel, by decide +kernel, by decide +kernel, by decide⟩
theorem p_X10_open : zMp yX10_open 2 3 := ⟨by decide +kernel, by decide +kernel, by decide +kernel, by decide⟩
theorem p_X10_best : zMp yX10_best 1 2 := ⟨by decide +kernel, by decide +kernel, by decide +kernel, by decide⟩
theorem p_X10_work : zMp yX10_work 2 3 := ⟨by decide +kernel, by decide +kernel, by decide +kernel, by decide⟩
theorem p_X10_workAgain : zMp yX10_workAgain 2 3 := ⟨by decide +kernel, by decide +kernel, by decide +kernel, by decide⟩
theorem p_X10_seamstress : zMp yX10_seamstress 0 1 := ⟨by decide +kernel, by decide +kernel, by decide +kernel, by decide⟩
theorem p_X10_seamstressOf : zMp yX10_seamstressOf 2 3 := ⟨by decide +kernel, by decide +kernel, by decide +kernel, by decide⟩
theorem p_X10_bring : zMp yX10_bring 2 3 := ⟨by decide +kernel, by decide +kernel, by decide +kernel, by decide⟩
theorem p_X10_sew : zMp yX10_sew 2 3 := ⟨by decide +kernel, by decide +kernel, by decide +kernel, by decide⟩
theorem p_X10_spangle : zMp yX10_spangle 3 4 := ⟨by decide +kernel, by decide +kernel, by decide +kernel, by decide⟩
theorem p_X10_letOut : zMp yX10_letOut 2 3 := ⟨by decide +kernel, by decide +kernel, by decide +kernel, by decide⟩
theorem p_X10_tear : zMp yX10_tear 1 2 := ⟨by decide +kernel, by decide +kernel, by decide +kernel, by decide⟩
theorem p_X10_patch : zMp yX10_patch 1 2 := ⟨by decide +kernel, by decide +kernel, by decide +kernel, by decide⟩
theorem p_X10_torn : zMp yX10_torn 1 2 := ⟨by decide +kernel, by decide +kernel, by decide +kernel, by decide⟩
theorem p_X10_trunk : zMp yX10_trunk 0 1 := ⟨by decide +kernel, by decide +kernel, by decide +kernel, by decide⟩
theorem p_X10_pack : zMp yX10_pack 2 3 := ⟨by decide +kernel, by decide +kernel, by decide +kernel, by decide⟩
theorem p_X10_unpack : zMp yX10_unpack 1 2 := ⟨by decide +kernel, by decide +kernel, by decide +kernel, by decide⟩
theorem p_X10_packed : zMp yX10_packed 2 3 := ⟨by decide +kernel, by decide +kernel, by decide +kernel, by decide⟩
theorem p_X10_load : zMp yX10_load 1 2 := ⟨by decide +kernel, by decide +kernel, by decide +kernel, by decide⟩
theorem p_X10_unload : zMp yX10_unload 0 1 := ⟨by decide +kernel, by decide +kernel, by decide +kernel, by decide⟩
theorem p_X10_onTrain : zMp yX10_onTrain 1 2 := ⟨by decide +kernel, by decide +kernel, by decide +kernel, by decide⟩
theorem p_X10_unloads : zMp yX10_unloads 1 2 := ⟨by decide +kernel, by decide +kernel, by decide +kernel, by decide⟩
theorem p_X10_goOn : zMp yX10_goOn 1 2 := ⟨by decide +kernel, by decide +kernel, by decide +kernel, by decide⟩
theorem p_X10_tightIn : zMp yX10_tightIn 1 2 := ⟨by decide +kernel, by decide +kernel, by decide +kernel, by decide⟩
theorem p_X10_pass : zMp yX10_pass 1 2 := ⟨by decide +kernel, by decide +kernel, by decide +kernel, by decide⟩
theorem p_X10_append : zMp yX10_append 1 2 := ⟨by decide +kernel, by decide +kernel, by decide +kernel, by decide⟩
theorem p_X10_read : zMp yX10_read 0 2 := ⟨by decide +kernel, by decide +kernel, by decide +kernel, by decide⟩
theorem p_X10_errorPosition : zMp yX10_errorPosition 0 1 := ⟨by decide +kernel, by decide +kernel, by decide +kernel, by decide⟩
theorem p_X10_refusal : zMp yX10_refusal 1 2 := ⟨by decide +kernel, by decide +kernel, by decide +kernel, by decide⟩
theorem p_X10_sign : zMp yX10_sign 1 2 := ⟨by decide +kernel, by decide +kernel, by decide +kernel, by decide⟩
theorem p_X10_account : zMp yX10_account 1 2 := ⟨by decide +kernel, by decide +kernel, by decide +kernel, by decide⟩
theorem p_X10_isWell : zMp yX10_isWell 0 1 := ⟨by decide +kernel, by decide +kernel, by decide +kernel, by decide⟩
theorem p_X10_meanThumb : zMp yX10_meanThumb 0 2 := ⟨by decide +kernel, by decide +kernel, by decide +kernel, by decide⟩
theorem p_X10_tornShare : zMp yX10_tornShare 0 1 := ⟨by decide +kernel, by decide +kernel, by decide +kernel, by decide⟩
theorem p_X10_undo : zMp yX10_undo 0 1 := ⟨by decide +kernel, by decide +kernel, by decide +kernel, by decide⟩
theorem p_X10_save : zMp yX10_save 0 1 := ⟨by decide +kernel, by decide +kernel, by decide +kernel, by decide⟩
theorem p_X10_restore : zMp yX10_restore 0 1 := ⟨by decide +kernel, by decide +kernel, by decide +kernel, by decide⟩
theorem p_X10_needRange : zMp yX10_needRange 3 3 := ⟨by decide +kernel, by decide +kernel, by decide +kernel, by decide⟩
theorem p_X10_needThere : zMp yX10_needThere 1 1 := ⟨by decide +kernel, by decide +kernel, by decide +kernel, by decide⟩
theorem p_X10_heed : zMp yX10_heed 1 1 := ⟨by decide +kernel, by decide +kernel, by decide +kernel, by decide⟩
theorem p_X10_found : zMp yX10_found 1 1 := ⟨by decide +kernel, by decide +kernel, by decide +kernel, by decide⟩
theorem p_X10_isPanel : zMp yX10_isPanel 1 1 := ⟨by decide +kernel, by decide +kernel, by decide +kernel, by decide⟩
theorem p_X11_init : zMp yX11_init 0 1 := ⟨by decide +kernel, by decide +kernel, by decide +kernel, by decide⟩
theorem p_X11_thrown : zMp yX11_thrown 0 1 := ⟨by decide +kernel, by decide +kernel, by decide +kernel, by decide⟩
theorem p_X11_fails : zMp yX11_fails 1 2 := ⟨by decide +kernel, by decide +kernel, by decide +kernel, by decide⟩
theorem p_X11_refuses : zMp yX11_refuses 3 4 := ⟨by decide +kernel, by decide +kernel, by decide +kernel, by decide⟩
theorem p_X11_in : zMp yX11_in 3 3 := ⟨by decide +kernel, by decide +kernel, by decide +kernel, by decide⟩
theorem p_X11_less : zMp yX11_less 2 2 := ⟨by decide +kernel, by decide +kernel, by decide +kernel, by decide⟩
theorem p_X11_more : zMp yX11_more 2 2 := ⟨by decide +kernel, by decide +kernel, by decide +kernel, by decide⟩
theorem p_X11_copies : zMp yX11_copies 4 5 := ⟨by decide +kernel, by decide +kernel, by decide +kernel, by decide⟩
theorem p_X11_keeps : zMp yX11_keeps 1 3 := ⟨by decide +kernel, by decide +kernel, by decide +kernel, by decide⟩
theorem p_X11_isCoat : zMp yX11_isCoat 1 2 := ⟨by decide +kernel, by decide +kernel, by decide +kernel, by decide⟩
theorem p_X11_isAct : zMp yX11_isAct 1 2 := ⟨by decide +kernel, by decide +kernel, by decide +kernel, by decide⟩
theorem p_X11_isWoman : zMp yX11_isWoman 1 2 := ⟨by decide +kernel, by decide +kernel, by decide +kernel, by decide⟩
theorem p_X11_isTrunk : zMp yX11_isTrunk 1 2 := ⟨by decide +kernel, by decide +kernel, by decide +kernel, by decide⟩
theorem p_X11_of : zMp yX11_of 2 3 := ⟨by decide +kernel, by decide +kernel, by decide +kernel, by decide⟩
theorem p_X11_lays : zMp yX11_lays 3 4 := ⟨by decide +kernel, by decide +kernel, by decide +kernel, by decide⟩
theorem p_X11_ofAct : zMp yX11_ofAct 2 3 := ⟨by decide +kernel, by decide +kernel, by decide +kernel, by decide⟩
theorem p_X11_laysAct : zMp yX11_laysAct 3 4 := ⟨by decide +kernel, by decide +kernel, by decide +kernel, by decide⟩
theorem p_X11_ofWoman : zMp yX11_ofWoman 2 3 := ⟨by decide +kernel, by decide +kernel, by decide +kernel, by decide⟩
theorem p_X11_packedIn : zMp yX11_packedIn 1 2 := ⟨by decide +kernel, by decide +kernel, by decide +kernel, by decide⟩
theorem p_X11_coat : zMp yX11_coat 1 4 := ⟨by decide +kernel, by decide +kernel, by decide +kernel, by decide⟩
theorem p_X11_act : zMp yX11_act 2 4 := ⟨by decide +kernel, by decide +kernel, by decide +kernel, by decide⟩
theorem p_X11_wear : zMp yX11_wear 2 5 := ⟨by decide +kernel, by decide +kernel, by decide +kernel, by decide⟩
theorem p_X11_rip : zMp yX11_rip 2 3 := ⟨by decide +kernel, by decide +kernel, by decide +kernel, by decide⟩
theorem p_X11_loses : zMp yX11_loses 2 4 := ⟨by decide +kernel, by decide +kernel, by decide +kernel, by decide⟩
theorem p_X11_lose : zMp yX11_lose 2 3 := ⟨by decide +kernel, by decide +kernel, by decide +kernel, by decide⟩
theorem p_X11_coatOf : zMp yX11_coatOf 2 3 := ⟨by decide +kernel, by decide +kernel, by decide +kernel, by decide⟩
theorem p_X11_actOf : zMp yX11_actOf 2 3 := ⟨by decide +kernel, by decide +kernel, by decide +kernel, by decide⟩
theorem p_X11_opens : zMp yX11_opens 2 3 := ⟨by decide +kernel, by decide +kernel, by decide +kernel, by decide⟩
theorem p_X11_open : zMp yX11_open 2 3 := ⟨by decide +kernel, by decide +kernel, by decide +kernel, by decide⟩
theorem p_X11_best : zMp yX11_best 1 4 := ⟨by decide +kernel, by decide +kernel, by decide +kernel, by decide⟩
theorem p_X11_work : zMp yX11_work 2 3 := ⟨by decide +kernel, by decide +kernel, by decide +kernel, by decide⟩
theorem p_X11_workAgain : zMp yX11_workAgain 2 7 := ⟨by decide +kernel, by decide +kernel, by decide +kernel, by decide⟩
theorem p_X11_seamstress : zMp yX11_seamstress 0 2 := ⟨by decide +kernel, by decide +kernel, by decide +kernel, by decide⟩
theorem p_X11_seamstressOf : zMp yX11_seamstressOf 2 3 := ⟨by decide +kernel, by decide +kernel, by decide +kernel, by decide⟩
theorem p_X11_bring : zMp yX11_bring 2 4 := ⟨by decide +kernel, by decide +kernel, by decide +kernel, by decide⟩
theorem p_X11_sews : zMp yX11_sews 3 5 := ⟨by decide +kernel, by decide +kernel, by decide +kernel, by decide⟩
theorem p_X11_lacks : zMp yX11_lacks 4 7 := ⟨by decide +kernel, by decide +kernel, by decide +kernel, by decide⟩
theorem p_X11_sew : zMp yX11_sew 2 3 := ⟨by decide +kernel, by decide +kernel, by decide +kernel, by decide⟩
theorem p_X11_spangle : zMp yX11_spangle 3 4 := ⟨by decide +kernel, by decide +kernel, by decide +kernel, by decide⟩
theorem p_X11_letOut : zMp yX11_letOut 2 3 := ⟨by decide +kernel, by decide +kernel, by decide +kernel, by decide⟩
theorem p_X11_isTorn : zMp yX11_isTorn 1 2 := ⟨by decide +kernel, by decide +kernel, by decide +kernel, by decide⟩
theorem p_X11_holes : zMp yX11_holes 0 3 := ⟨by decide +kernel, by decide +kernel, by decide +kernel, by decide⟩
theorem p_X11_tornFrom : zMp yX11_tornFrom 1 3 := ⟨by decide +kernel, by decide +kernel, by decide +kernel, by decide⟩
theorem p_X11_tear : zMp yX11_tear 1 2 := ⟨by decide +kernel, by decide +kernel, by decide +kernel, by decide⟩
theorem p_X11_patch : zMp yX11_patch 1 3 := ⟨by decide +kernel, by decide +kernel, by decide +kernel, by decide⟩
theorem p_X11_torn : zMp yX11_torn 1 3 := ⟨by decide +kernel, by decide +kernel, by decide +kernel, by decide⟩
theorem p_X11_trunk : zMp yX11_trunk 0 1 := ⟨by decide +kernel, by decide +kernel, by decide +kernel, by decide⟩
theorem p_X11_trainPlace : zMp yX11_trainPlace 1 3 := ⟨by decide +kernel, by decide +kernel, by decide +kernel, by decide⟩
theorem p_X11_pack : zMp yX11_pack 2 3 := ⟨by decide +kernel, by decide +kernel, by decide +kernel, by decide⟩
theorem p_X11_unpack : zMp yX11_unpack 1 5 := ⟨by decide +kernel, by decide +kernel, by decide +kernel, by decide⟩
theorem p_X11_packed : zMp yX11_packed 2 3 := ⟨by decide +kernel, by decide +kernel, by decide +kernel, by decide⟩
theorem p_X11_load : zMp yX11_load 1 2 := ⟨by decide +kernel, by decide +kernel, by decide +kernel, by decide⟩
theorem p_X11_unload : zMp yX11_unload 0 3 := ⟨by decide +kernel, by decide +kernel, by decide +kernel, by decide⟩
theorem p_X11_onTrain : zMp yX11_onTrain 1 2 := ⟨by decide +kernel, by decide +kernel, by decide +kernel, by decide⟩
theorem p_X11_unloads : zMp yX11_unloads 1 2 := ⟨by decide +kernel, by decide +kernel, by decide +kernel, by decide⟩
theorem p_X11_goOn : zMp yX11_goOn 1 3 := ⟨by decide +kernel, by decide +kernel, by decide +kernel, by decide⟩
theorem p_X11_tightIn : zMp yX11_tightIn 1 6 := ⟨by decide +kernel, by decide +kernel, by decide +kernel, by decide⟩
theorem p_X11_dayGoes : zMp yX11_dayGoes 0 4 := ⟨by decide +kernel, by decide +kernel, by decide +kernel, by decide⟩
theorem p_X11_pass : zMp yX11_pass 1 4 := ⟨by decide +kernel, by decide +kernel, by decide +kernel, by decide⟩
theorem p_X11_append : zMp yX11_append 1 2 := ⟨by decide +kernel, by decide +kernel, by decide +kernel, by decide⟩
theorem p_X11_here : zMp yX11_here 0 1 := ⟨by decide +kernel, by decide +kernel, by decide +kernel, by decide⟩
theorem p_X11_skips : zMp yX11_skips 1 2 := ⟨by decide +kernel, by decide +kernel, by decide +kernel, by decide⟩
theorem p_X11_number : zMp yX11_number 2 4 := ⟨by decide +kernel, by decide +kernel, by decide +kernel, by decide⟩
theorem p_X11_orderHere : zMp yX11_orderHere 0 2 := ⟨by decide +kernel, by decide +kernel, by decide +kernel, by decide⟩
theorem p_X11_isText : zMp yX11_isText 0 1 := ⟨by decide +kernel, by decide +kernel, by decide +kernel, by decide⟩
theorem p_X11_carries : zMp yX11_carries 1 2 := ⟨by decide +kernel, by decide +kernel, by decide +kernel, by decide⟩
theorem p_X11_read : zMp yX11_read 0 4 := ⟨by decide +kernel, by decide +kernel, by decide +kernel, by decide⟩
theorem p_X11_errorPosition : zMp yX11_errorPosition 0 1 := ⟨by decide +kernel, by decide +kernel, by decide +kernel, by decide⟩
theorem p_X11_refusal : zMp yX11_refusal 1 2 := ⟨by decide +kernel, by decide +kernel, by decide +kernel, by decide⟩
theorem p_X11_sign : zMp yX11_sign 1 2 := ⟨by decide +kernel, by decide +kernel, by decide +kernel, by decide⟩
theorem p_X11_sumOf : zMp yX11_sumOf 1 4 := ⟨by decide +kernel, by decide +kernel, by decide +kernel, by decide⟩
theorem p_X11_inTrunks : zMp yX11_inTrunks 0 3 := ⟨by decide +kernel, by decide +kernel, by decide +kernel, by decide⟩
theorem p_X11_account : zMp yX11_account 1 2 := ⟨by decide +kernel, by decide +kernel, by decide +kernel, by decide⟩
theorem p_X11_isWell : zMp yX11_isWell 0 4 := ⟨by decide +kernel, by decide +kernel, by decide +kernel, by decide⟩
theorem p_X11_meanThumb : zMp yX11_meanThumb 0 3 := ⟨by decide +kernel, by decide +kernel, by decide +kernel, by decide⟩
theorem p_X11_tornShare : zMp yX11_tornShare 0 1 := ⟨by decide +kernel, by decide +kernel, by decide +kernel, by decide⟩
theorem p_X11_undo : zMp yX11_undo 0 1 := ⟨by decide +kernel, by decide +kernel, by decide +kernel, by decide⟩
theorem p_X11_save : zMp yX11_save 0 1 := ⟨by decide +kernel, by decide +kernel, by decide +kernel, by decide⟩
theorem p_X11_restore : zMp yX11_restore 0 1 := ⟨by decide +kernel, by decide +kernel, by decide +kernel, by decide⟩
theorem lm_X1_39 : Cond.methodLink RX1 39 Lib.Math.min.name ∈ lw_good := tg 330 (by decide +kernel) (by decide +kernel)
theorem lm_X9_27 : Cond.methodLink RX9 27 Lib.Math.min.name ∈ lw_good := tg 426 (by decide +kernel) (by decide +kernel)
theorem lm_X9_48 : Cond.methodLink RX9 48 Lib.Math.max.name ∈ lw_good := tg 511 (by decide +kernel) (by decide +kernel)
theorem lm_X7_23 : Cond.methodLink RX7 23 Lib.Math.min.name ∈ lw_good := tg 562 (by decide +kernel) (by decide +kernel)
theorem lm_X8_46 : Cond.methodLink RX8 46 Lib.Math.max.name ∈ lw_good := tg 821 (by decide +kernel) (by decide +kernel)
theorem lm_X8_54 : Cond.methodLink RX8 54 Lib.Math.min.name ∈ lw_good := tg 826 (by decide +kernel) (by decide +kernel)
theorem lm_X1_45 : Cond.methodLink RX1 45 Lib.Math.max.name ∈ lw_good := tg 1125 (by decide +kernel) (by decide +kernel)
theorem ws_X10 : ∀ w ∈ u_ws RX10 TX10 6, w ∈ lw_good := by
  intro w hw
  have h : (u_ws RX10 TX10 6).all (fun w => decide (w ∈ lw_tbl) && goodWord w) = true := by decide +kernel
  have h1 := List.all_eq_true.mp h w hw
  simp only [Bool.and_eq_true, decide_eq_true_eq] at h1
  exact List.mem_filter.mpr h1
def ft_X10 : List (Nat × Nat × Bool) := [(10, 0, false), (16, 1, false), (22, 2, false), (29, 3, false), (36, 4, false), (40, 5, false)]
theorem fo_X10 : zFok RX10 0 ft_X10 := by
  intro q hq
  refine ⟨TX10, 6, tyX10, rfl, ws_X10, tyX10_ok, nmX10, ?_⟩
  simp only [ft_X10, List.mem_cons, List.not_mem_nil, or_false] at hq
  rcases hq with rfl | rfl | rfl | rfl | rfl | rfl
  · exact ⟨by decide, f_X10_10, rfl, by decide⟩
  · exact ⟨by decide, f_X10_16, rfl, by decide⟩
  · exact ⟨by decide, f_X10_22, rfl, by decide⟩
  · exact ⟨by decide, f_X10_29, rfl, by decide⟩
  · exact ⟨by decide, f_X10_36, rfl, by decide⟩
  · exact ⟨by decide, f_X10_40, rfl, by decide⟩
theorem ws_X6 : ∀ w ∈ u_ws RX6 TX6 1, w ∈ lw_good := by
  intro w hw
  have h : (u_ws RX6 TX6 1).all (fun w => decide (w ∈ lw_tbl) && goodWord w) = true := by decide +kernel
  have h1 := List.all_eq_true.mp h w hw
  simp only [Bool.and_eq_true, decide_eq_true_eq] at h1
  exact List.mem_filter.mpr h1
def ft_X6 : List (Nat × Nat × Bool) := [(11, 0, false)]
theorem fo_X6 : zFok RX6 1 ft_X6 := by
  intro q hq
  refine ⟨TX6, 1, tyX6, rfl, ws_X6, tyX6_ok, nmX6, ?_⟩
  simp only [ft_X6, List.mem_cons, List.not_mem_nil, or_false] at hq
  rcases hq with rfl
  · exact ⟨by decide, f_X6_11, rfl, by decide⟩
theorem ws_X1 : ∀ w ∈ u_ws RX1 TX1 3, w ∈ lw_good := by
  intro w hw
  have h : (u_ws RX1 TX1 3).all (fun w => decide (w ∈ lw_tbl) && goodWord w) = true := by decide +kernel
  have h1 := List.all_eq_true.mp h w hw
  simp only [Bool.and_eq_true, decide_eq_true_eq] at h1
  exact List.mem_filter.mpr h1
def ft_X1 : List (Nat × Nat × Bool) := [(11, 0, false), (29, 1, true), (18, 2, true)]
theorem fo_X1 : zFok RX1 2 ft_X1 := by
  intro q hq
  refine ⟨TX1, 3, tyX1, rfl, ws_X1, tyX1_ok, nmX1, ?_⟩
  simp only [ft_X1, List.mem_cons, List.not_mem_nil, or_false] at hq
  rcases hq with rfl | rfl | rfl
  · exact ⟨by decide, f_X1_11, rfl, by decide⟩
  · exact ⟨by decide, f_X1_29, rfl, fun _ => ⟨rfl, rfl⟩⟩
  · exact ⟨by decide, f_X1_18, rfl, fun _ => ⟨rfl, rfl⟩⟩
theorem ws_X5 : ∀ w ∈ u_ws RX5 TX5 2, w ∈ lw_good := by
  intro w hw
  have h : (u_ws RX5 TX5 2).all (fun w => decide (w ∈ lw_tbl) && goodWord w) = true := by decide +kernel
  have h1 := List.all_eq_true.mp h w hw
  simp only [Bool.and_eq_true, decide_eq_true_eq] at h1
  exact List.mem_filter.mpr h1
def ft_X5 : List (Nat × Nat × Bool) := [(9, 0, true), (15, 1, true)]
theorem fo_X5 : zFok RX5 3 ft_X5 := by
  intro q hq
  refine ⟨TX5, 2, tyX5, rfl, ws_X5, tyX5_ok, nmX5, ?_⟩
  simp only [ft_X5, List.mem_cons, List.not_mem_nil, or_false] at hq
  rcases hq with rfl | rfl
  · exact ⟨by decide, f_X5_9, rfl, fun _ => ⟨rfl, rfl⟩⟩
  · exact ⟨by decide, f_X5_15, rfl, fun _ => ⟨rfl, rfl⟩⟩
theorem ws_X2 : ∀ w ∈ u_ws RX2 TX2 8, w ∈ lw_good := by
  intro w hw
  have h : (u_ws RX2 TX2 8).all (fun w => decide (w ∈ lw_tbl) && goodWord w) = true := by decide +kernel
  have h1 := List.all_eq_true.mp h w hw
  simp only [Bool.and_eq_true, decide_eq_true_eq] at h1
  exact List.mem_filter.mpr h1
def ft_X2 : List (Nat × Nat × Bool) := [(9, 0, false), (15, 1, false), (18, 2, false), (22, 3, false), (29, 4, true), (35, 5, true), (32, 6, true), (25, 7, true)]
theorem fo_X2 : zFok RX2 4 ft_X2 := by
  intro q hq
  refine ⟨TX2, 8, tyX2, rfl, ws_X2, tyX2_ok, nmX2, ?_⟩
  simp only [ft_X2, List.mem_cons, List.not_mem_nil, or_false] at hq
  rcases hq with rfl | rfl | rfl | rfl | rfl | rfl | rfl | rfl
  · exact ⟨by decide, f_X2_9, rfl, by decide⟩
  · exact ⟨by decide, f_X2_15, rfl, by decide⟩
  · exact ⟨by decide, f_X2_18, rfl, by decide⟩
  · exact ⟨by decide, f_X2_22, rfl, by decide⟩
  · exact ⟨by decide, f_X2_29, rfl, fun _ => ⟨rfl, rfl⟩⟩
  · exact ⟨by decide, f_X2_35, rfl, fun _ => ⟨rfl, rfl⟩⟩
  · exact ⟨by decide, f_X2_32, rfl, fun _ => ⟨rfl, rfl⟩⟩
  · exact ⟨by decide, f_X2_25, rfl, fun _ => ⟨rfl, rfl⟩⟩
theorem ws_X11 : ∀ w ∈ u_ws RX11 TX11 17, w ∈ lw_good := by
  intro w hw
  have h : (u_ws RX11 TX11 17).all (fun w => decide (w ∈ lw_tbl) && goodWord w) = true := by decide +kernel
  have h1 := List.all_eq_true.mp h w hw
  simp only [Bool.and_eq_true, decide_eq_true_eq] at h1
  exact List.mem_filter.mpr h1
def ft_X11 : List (Nat × Nat × Bool) := [(7, 0, false), (13, 1, false), (16, 2, false), (19, 3, false), (196, 4, false), (48, 5, true), (45, 6, false), (32, 7, true), (35, 8, false), (39, 9, true), (42, 10, true), (22, 11, false), (139, 12, true), (25, 13, true), (142, 14, true), (29, 15, false), (148, 16, true)]
theorem fo_X11 : zFok RX11 5 ft_X11 := by
  intro q hq
  refine ⟨TX11, 17, tyX11, rfl, ws_X11, tyX11_ok, nmX11, ?_⟩
  simp only [ft_X11, List.mem_cons, List.not_mem_nil, or_false] at hq
  rcases hq with rfl | rfl | rfl | rfl | rfl | rfl | rfl | rfl | rfl | rfl | rfl | rfl | rfl | rfl | rfl | rfl | rfl
  · exact ⟨by decide, f_X11_7, rfl, by decide⟩
  · exact ⟨by decide, f_X11_13, rfl, by decide⟩
  · exact ⟨by decide, f_X11_16, rfl, by decide⟩
  · exact ⟨by decide, f_X11_19, rfl, by decide⟩
  · exact ⟨by decide, f_X11_196, rfl, by decide⟩
  · exact ⟨by decide, f_X11_48, rfl, fun _ => ⟨rfl, rfl⟩⟩
  · exact ⟨by decide, f_X11_45, rfl, by decide⟩
  · exact ⟨by decide, f_X11_32, rfl, fun _ => ⟨rfl, rfl⟩⟩
  · exact ⟨by decide, f_X11_35, rfl, by decide⟩
  · exact ⟨by decide, f_X11_39, rfl, fun _ => ⟨rfl, rfl⟩⟩
  · exact ⟨by decide, f_X11_42, rfl, fun _ => ⟨rfl, rfl⟩⟩
  · exact ⟨by decide, f_X11_22, rfl, by decide⟩
  · exact ⟨by decide, f_X11_139, rfl, fun _ => ⟨rfl, rfl⟩⟩
  · exact ⟨by decide, f_X11_25, rfl, fun _ => ⟨rfl, rfl⟩⟩
  · exact ⟨by decide, f_X11_142, rfl, fun _ => ⟨rfl, rfl⟩⟩
  · exact ⟨by decide, f_X11_29, rfl, by decide⟩
  · exact ⟨by decide, f_X11_148, rfl, fun _ => ⟨rfl, rfl⟩⟩
theorem fo_no (own : String) : zFok own 99 [] := fun q hq => by cases hq
theorem a_IA : zAt RX10 "java/lang/IllegalArgumentException" 101 ["java/lang/RuntimeException", "java/lang/Exception"] := ⟨by decide +kernel, by decide +kernel, by decide, by decide +kernel, tg 10 (by decide +kernel) (by decide +kernel)⟩
theorem a_UO : zAt RX10 "java/lang/UnsupportedOperationException" 342 ["java/lang/RuntimeException", "java/lang/Exception"] := ⟨by decide +kernel, by decide +kernel, by decide, by decide +kernel, tg 11 (by decide +kernel) (by decide +kernel)⟩
theorem a_IB : zAt RX10 "java/lang/IndexOutOfBoundsException" 337 ["java/lang/RuntimeException", "java/lang/Exception"] := ⟨by decide +kernel, by decide +kernel, by decide, by decide +kernel, tg 14 (by decide +kernel) (by decide +kernel)⟩
theorem a_IS : zAt RX10 "java/lang/IllegalStateException" 240 ["java/lang/RuntimeException", "java/lang/Exception"] := ⟨by decide +kernel, by decide +kernel, by decide, by decide +kernel, tg 21 (by decide +kernel) (by decide +kernel)⟩
theorem a_AE : zAt RX10 "java/lang/ArithmeticException" 312 ["java/lang/RuntimeException", "java/lang/Exception"] := ⟨by decide +kernel, by decide +kernel, by decide, by decide +kernel, tg 28 (by decide +kernel) (by decide +kernel)⟩
