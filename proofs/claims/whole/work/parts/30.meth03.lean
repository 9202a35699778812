set_option maxRecDepth 100000 in
theorem kt_X8_advance_0 : okT cX8_advance 3 8 false (t_X8_advance.take 20) = true := by decide +kernel
set_option maxRecDepth 100000 in
theorem kt_X8_advance_1 : okT cX8_advance 3 8 false ((t_X8_advance.drop 20).take 20) = true := by decide +kernel
set_option maxRecDepth 100000 in
theorem kt_X8_advance_2 : okT cX8_advance 3 8 false ((t_X8_advance.drop 20).drop 20) = true := by decide +kernel
theorem kt_X8_advance : okT cX8_advance 3 8 false t_X8_advance = true := okT_cut 20 kt_X8_advance_0 (okT_cut 20 kt_X8_advance_1 (kt_X8_advance_2))
set_option maxRecDepth 100000 in
theorem k0_X8_advance : okM0 md_X8_advance = true := by decide +kernel
theorem ok_X8_advance : okMD md_X8_advance = true := okMD_of k0_X8_advance kt_X8_advance
set_option maxRecDepth 100000 in
theorem kt_X8_valuesEnd_0 : okT cX8_valuesEnd 3 8 false (t_X8_valuesEnd.take 20) = true := by decide +kernel
set_option maxRecDepth 100000 in
theorem kt_X8_valuesEnd_1 : okT cX8_valuesEnd 3 8 false (t_X8_valuesEnd.drop 20) = true := by decide +kernel
theorem kt_X8_valuesEnd : okT cX8_valuesEnd 3 8 false t_X8_valuesEnd = true := okT_cut 20 kt_X8_valuesEnd_0 (kt_X8_valuesEnd_1)
set_option maxRecDepth 100000 in
theorem k0_X8_valuesEnd : okM0 md_X8_valuesEnd = true := by decide +kernel
theorem ok_X8_valuesEnd : okMD md_X8_valuesEnd = true := okMD_of k0_X8_valuesEnd kt_X8_valuesEnd
set_option maxRecDepth 100000 in
theorem kt_X8_roomEnd_0 : okT cX8_roomEnd 3 8 false (t_X8_roomEnd.take 20) = true := by decide +kernel
set_option maxRecDepth 100000 in
theorem kt_X8_roomEnd_1 : okT cX8_roomEnd 3 8 false ((t_X8_roomEnd.drop 20).take 20) = true := by decide +kernel
set_option maxRecDepth 100000 in
theorem kt_X8_roomEnd_2 : okT cX8_roomEnd 3 8 false (((t_X8_roomEnd.drop 20).drop 20).take 20) = true := by decide +kernel
set_option maxRecDepth 100000 in
theorem kt_X8_roomEnd_3 : okT cX8_roomEnd 3 8 false (((t_X8_roomEnd.drop 20).drop 20).drop 20) = true := by decide +kernel
theorem kt_X8_roomEnd : okT cX8_roomEnd 3 8 false t_X8_roomEnd = true := okT_cut 20 kt_X8_roomEnd_0 (okT_cut 20 kt_X8_roomEnd_1 (okT_cut 20 kt_X8_roomEnd_2 (kt_X8_roomEnd_3)))
set_option maxRecDepth 100000 in
theorem k0_X8_roomEnd : okM0 md_X8_roomEnd = true := by decide +kernel
theorem ok_X8_roomEnd : okMD md_X8_roomEnd = true := okMD_of k0_X8_roomEnd kt_X8_roomEnd
set_option maxRecDepth 100000 in
theorem kt_X8_perform_0 : okT cX8_perform 2 8 false (t_X8_perform.take 20) = true := by decide +kernel
set_option maxRecDepth 100000 in
theorem kt_X8_perform_1 : okT cX8_perform 2 8 false ((t_X8_perform.drop 20).take 20) = true := by decide +kernel
set_option maxRecDepth 100000 in
theorem kt_X8_perform_2 : okT cX8_perform 2 8 false (((t_X8_perform.drop 20).drop 20).take 20) = true := by decide +kernel
set_option maxRecDepth 100000 in
theorem kt_X8_perform_3 : okT cX8_perform 2 8 false ((((t_X8_perform.drop 20).drop 20).drop 20).take 20) = true := by decide +kernel
set_option maxRecDepth 100000 in
theorem kt_X8_perform_4 : okT cX8_perform 2 8 false (((((t_X8_perform.drop 20).drop 20).drop 20).drop 20).take 20) = true := by decide +kernel
set_option maxRecDepth 100000 in
theorem kt_X8_perform_5 : okT cX8_perform 2 8 false ((((((t_X8_perform.drop 20).drop 20).drop 20).drop 20).drop 20).take 20) = true := by decide +kernel
set_option maxRecDepth 100000 in
theorem kt_X8_perform_6 : okT cX8_perform 2 8 false (((((((t_X8_perform.drop 20).drop 20).drop 20).drop 20).drop 20).drop 20).take 20) = true := by decide +kernel
set_option maxRecDepth 100000 in
theorem kt_X8_perform_7 : okT cX8_perform 2 8 false ((((((((t_X8_perform.drop 20).drop 20).drop 20).drop 20).drop 20).drop 20).drop 20).take 20) = true := by decide +kernel
set_option maxRecDepth 100000 in
theorem kt_X8_perform_8 : okT cX8_perform 2 8 false (((((((((t_X8_perform.drop 20).drop 20).drop 20).drop 20).drop 20).drop 20).drop 20).drop 20).take 20) = true := by decide +kernel
set_option maxRecDepth 100000 in
theorem kt_X8_perform_9 : okT cX8_perform 2 8 false (((((((((t_X8_perform.drop 20).drop 20).drop 20).drop 20).drop 20).drop 20).drop 20).drop 20).drop 20) = true := by decide +kernel
theorem kt_X8_perform : okT cX8_perform 2 8 false t_X8_perform = true := okT_cut 20 kt_X8_perform_0 (okT_cut 20 kt_X8_perform_1 (okT_cut 20 kt_X8_perform_2 (okT_cut 20 kt_X8_perform_3 (okT_cut 20 kt_X8_perform_4 (okT_cut 20 kt_X8_perform_5 (okT_cut 20 kt_X8_perform_6 (okT_cut 20 kt_X8_perform_7 (okT_cut 20 kt_X8_perform_8 (kt_X8_perform_9)))))))))
set_option maxRecDepth 100000 in
theorem k0_X8_perform : okM0 md_X8_perform = true := by decide +kernel
theorem ok_X8_perform : okMD md_X8_perform = true := okMD_of k0_X8_perform kt_X8_perform
set_option maxRecDepth 100000 in
theorem kt_X8_bring : okT cX8_bring 3 8 false t_X8_bring = true := by decide +kernel
set_option maxRecDepth 100000 in
theorem k0_X8_bring : okM0 md_X8_bring = true := by decide +kernel
theorem ok_X8_bring : okMD md_X8_bring = true := okMD_of k0_X8_bring kt_X8_bring
set_option maxRecDepth 100000 in
theorem kt_X8_exchange : okT cX8_exchange 4 8 false t_X8_exchange = true := by decide +kernel
set_option maxRecDepth 100000 in
theorem k0_X8_exchange : okM0 md_X8_exchange = true := by decide +kernel
theorem ok_X8_exchange : okMD md_X8_exchange = true := okMD_of k0_X8_exchange kt_X8_exchange
set_option maxRecDepth 100000 in
theorem kt_X8_letGo : okT cX8_letGo 2 8 false t_X8_letGo = true := by decide +kernel
set_option maxRecDepth 100000 in
theorem k0_X8_letGo : okM0 md_X8_letGo = true := by decide +kernel
theorem ok_X8_letGo : okMD md_X8_letGo = true := okMD_of k0_X8_letGo kt_X8_letGo
set_option maxRecDepth 100000 in
theorem kt_X8_swap : okT cX8_swap 5 8 false t_X8_swap = true := by decide +kernel
set_option maxRecDepth 100000 in
theorem k0_X8_swap : okM0 md_X8_swap = true := by decide +kernel
theorem ok_X8_swap : okMD md_X8_swap = true := okMD_of k0_X8_swap kt_X8_swap
set_option maxRecDepth 100000 in
theorem kt_X8_reckon_0 : okT cX8_reckon 6 8 false (t_X8_reckon.take 20) = true := by decide +kernel
set_option maxRecDepth 100000 in
theorem kt_X8_reckon_1 : okT cX8_reckon 6 8 false ((t_X8_reckon.drop 20).take 20) = true := by decide +kernel
set_option maxRecDepth 100000 in
theorem kt_X8_reckon_2 : okT cX8_reckon 6 8 false ((t_X8_reckon.drop 20).drop 20) = true := by decide +kernel
theorem kt_X8_reckon : okT cX8_reckon 6 8 false t_X8_reckon = true := okT_cut 20 kt_X8_reckon_0 (okT_cut 20 kt_X8_reckon_1 (kt_X8_reckon_2))
set_option maxRecDepth 100000 in
theorem k0_X8_reckon : okM0 md_X8_reckon = true := by decide +kernel
theorem ok_X8_reckon : okMD md_X8_reckon = true := okMD_of k0_X8_reckon kt_X8_reckon
set_option maxRecDepth 100000 in
theorem kt_X8_arithmetic_0 : okT cX8_arithmetic 5 8 false (t_X8_arithmetic.take 20) = true := by decide +kernel
set_option maxRecDepth 100000 in
theorem kt_X8_arithmetic_1 : okT cX8_arithmetic 5 8 false (t_X8_arithmetic.drop 20) = true := by decide +kernel
theorem kt_X8_arithmetic : okT cX8_arithmetic 5 8 false t_X8_arithmetic = true := okT_cut 20 kt_X8_arithmetic_0 (kt_X8_arithmetic_1)
set_option maxRecDepth 100000 in
theorem k0_X8_arithmetic : okM0 md_X8_arithmetic = true := by decide +kernel
theorem ok_X8_arithmetic : okMD md_X8_arithmetic = true := okMD_of k0_X8_arithmetic kt_X8_arithmetic
set_option maxRecDepth 100000 in
theorem kt_X8_jump : okT cX8_jump 2 8 false t_X8_jump = true := by decide +kernel
set_option maxRecDepth 100000 in
theorem k0_X8_jump : okM0 md_X8_jump = true := by decide +kernel
theorem ok_X8_jump : okMD md_X8_jump = true := okMD_of k0_X8_jump kt_X8_jump
set_option maxRecDepth 100000 in
theorem kt_X8_store : okT cX8_store 2 8 false t_X8_store = true := by decide +kernel
set_option maxRecDepth 100000 in
theorem k0_X8_store : okM0 md_X8_store = true := by decide +kernel
theorem ok_X8_store : okMD md_X8_store = true := okMD_of k0_X8_store kt_X8_store
set_option maxRecDepth 100000 in
theorem kt_X8_keep : okT cX8_keep 2 8 false t_X8_keep = true := by decide +kernel
set_option maxRecDepth 100000 in
theorem k0_X8_keep : okM0 md_X8_keep = true := by decide +kernel
theorem ok_X8_keep : okMD md_X8_keep = true := okMD_of k0_X8_keep kt_X8_keep
set_option maxRecDepth 100000 in
theorem kt_X8_print : okT cX8_print 1 8 false t_X8_print = true := by decide +kernel
set_option maxRecDepth 100000 in
theorem k0_X8_print : okM0 md_X8_print = true := by decide +kernel
theorem ok_X8_print : okMD md_X8_print = true := okMD_of k0_X8_print kt_X8_print
set_option maxRecDepth 100000 in
theorem kt_X8_giveBack : okT cX8_giveBack 1 8 false t_X8_giveBack = true := by decide +kernel
set_option maxRecDepth 100000 in
theorem k0_X8_giveBack : okM0 md_X8_giveBack = true := by decide +kernel
theorem ok_X8_giveBack : okMD md_X8_giveBack = true := okMD_of k0_X8_giveBack kt_X8_giveBack
set_option maxRecDepth 100000 in
theorem kt_X8_makeNew_0 : okT cX8_makeNew 2 8 false (t_X8_makeNew.take 20) = true := by decide +kernel
set_option maxRecDepth 100000 in
theorem kt_X8_makeNew_1 : okT cX8_makeNew 2 8 false (t_X8_makeNew.drop 20) = true := by decide +kernel
theorem kt_X8_makeNew : okT cX8_makeNew 2 8 false t_X8_makeNew = true := okT_cut 20 kt_X8_makeNew_0 (kt_X8_makeNew_1)
set_option maxRecDepth 100000 in
theorem k0_X8_makeNew : okM0 md_X8_makeNew = true := by decide +kernel
theorem ok_X8_makeNew : okMD md_X8_makeNew = true := okMD_of k0_X8_makeNew kt_X8_makeNew
set_option maxRecDepth 100000 in
theorem kt_X8_makeCopy_0 : okT cX8_makeCopy 3 8 false (t_X8_makeCopy.take 20) = true := by decide +kernel
set_option maxRecDepth 100000 in
theorem kt_X8_makeCopy_1 : okT cX8_makeCopy 3 8 false (t_X8_makeCopy.drop 20) = true := by decide +kernel
theorem kt_X8_makeCopy : okT cX8_makeCopy 3 8 false t_X8_makeCopy = true := okT_cut 20 kt_X8_makeCopy_0 (kt_X8_makeCopy_1)
set_option maxRecDepth 100000 in
theorem k0_X8_makeCopy : okM0 md_X8_makeCopy = true := by decide +kernel
theorem ok_X8_makeCopy : okMD md_X8_makeCopy = true := okMD_of k0_X8_makeCopy kt_X8_makeCopy
set_option maxRecDepth 100000 in
theorem kt_X8_get_0 : okT cX8_get 5 8 false (t_X8_get.take 20) = true := by decide +kernel
set_option maxRecDepth 100000 in
theorem kt_X8_get_1 : okT cX8_get 5 8 false (t_X8_get.drop 20) = true := by decide +kernel
theorem kt_X8_get : okT cX8_get 5 8 false t_X8_get = true := okT_cut 20 kt_X8_get_0 (kt_X8_get_1)
set_option maxRecDepth 100000 in
theorem k0_X8_get : okM0 md_X8_get = true := by decide +kernel
theorem ok_X8_get : okMD md_X8_get = true := okMD_of k0_X8_get kt_X8_get
set_option maxRecDepth 100000 in
theorem kt_X8_set_0 : okT cX8_set 4 8 false (t_X8_set.take 20) = true := by decide +kernel
set_option maxRecDepth 100000 in
theorem kt_X8_set_1 : okT cX8_set 4 8 false ((t_X8_set.drop 20).take 20) = true := by decide +kernel
set_option maxRecDepth 100000 in
theorem kt_X8_set_2 : okT cX8_set 4 8 false ((t_X8_set.drop 20).drop 20) = true := by decide +kernel
theorem kt_X8_set : okT cX8_set 4 8 false t_X8_set = true := okT_cut 20 kt_X8_set_0 (okT_cut 20 kt_X8_set_1 (kt_X8_set_2))
set_option maxRecDepth 100000 in
theorem k0_X8_set : okM0 md_X8_set = true := by decide +kernel
theorem ok_X8_set : okMD md_X8_set = true := okMD_of k0_X8_set kt_X8_set
