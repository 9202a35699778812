set_option maxRecDepth 100000 in
theorem kt_X6_init : okT cX6_init 2 6 true t_X6_init = true := by decide +kernel
set_option maxRecDepth 100000 in
theorem k0_X6_init : okM0 md_X6_init = true := by decide +kernel
theorem ok_X6_init : okMD md_X6_init = true := okMD_of k0_X6_init kt_X6_init
set_option maxRecDepth 100000 in
theorem kt_X6_size : okT cX6_size 1 6 false t_X6_size = true := by decide +kernel
set_option maxRecDepth 100000 in
theorem k0_X6_size : okM0 md_X6_size = true := by decide +kernel
theorem ok_X6_size : okMD md_X6_size = true := okMD_of k0_X6_size kt_X6_size
set_option maxRecDepth 100000 in
theorem kt_X6_indexOf : okT cX6_indexOf 3 6 false t_X6_indexOf = true := by decide +kernel
set_option maxRecDepth 100000 in
theorem k0_X6_indexOf : okM0 md_X6_indexOf = true := by decide +kernel
theorem ok_X6_indexOf : okMD md_X6_indexOf = true := okMD_of k0_X6_indexOf kt_X6_indexOf
set_option maxRecDepth 100000 in
theorem kt_X6_valueOf : okT cX6_valueOf 3 6 false t_X6_valueOf = true := by decide +kernel
set_option maxRecDepth 100000 in
theorem k0_X6_valueOf : okM0 md_X6_valueOf = true := by decide +kernel
theorem ok_X6_valueOf : okMD md_X6_valueOf = true := okMD_of k0_X6_valueOf kt_X6_valueOf
set_option maxRecDepth 100000 in
theorem kt_X6_copy_0 : okT cX6_copy 2 6 false (t_X6_copy.take 20) = true := by decide +kernel
set_option maxRecDepth 100000 in
theorem kt_X6_copy_1 : okT cX6_copy 2 6 false (t_X6_copy.drop 20) = true := by decide +kernel
theorem kt_X6_copy : okT cX6_copy 2 6 false t_X6_copy = true := okT_cut 20 kt_X6_copy_0 (kt_X6_copy_1)
set_option maxRecDepth 100000 in
theorem k0_X6_copy : okM0 md_X6_copy = true := by decide +kernel
theorem ok_X6_copy : okMD md_X6_copy = true := okMD_of k0_X6_copy kt_X6_copy
set_option maxRecDepth 100000 in
theorem kt_X7_init : okT cX7_init 1 7 true t_X7_init = true := by decide +kernel
set_option maxRecDepth 100000 in
theorem k0_X7_init : okM0 md_X7_init = true := by decide +kernel
theorem ok_X7_init : okMD md_X7_init = true := okMD_of k0_X7_init kt_X7_init
set_option maxRecDepth 100000 in
theorem kt_X7_memory : okT cX7_memory 1 7 false t_X7_memory = true := by decide +kernel
set_option maxRecDepth 100000 in
theorem k0_X7_memory : okM0 md_X7_memory = true := by decide +kernel
theorem ok_X7_memory : okMD md_X7_memory = true := okMD_of k0_X7_memory kt_X7_memory
set_option maxRecDepth 100000 in
theorem kt_X7_forget : okT cX7_forget 1 7 false t_X7_forget = true := by decide +kernel
set_option maxRecDepth 100000 in
theorem k0_X7_forget : okM0 md_X7_forget = true := by decide +kernel
theorem ok_X7_forget : okMD md_X7_forget = true := okMD_of k0_X7_forget kt_X7_forget
set_option maxRecDepth 100000 in
theorem kt_X7_wanted : okT cX7_wanted 1 7 false t_X7_wanted = true := by decide +kernel
set_option maxRecDepth 100000 in
theorem k0_X7_wanted : okM0 md_X7_wanted = true := by decide +kernel
theorem ok_X7_wanted : okMD md_X7_wanted = true := okMD_of k0_X7_wanted kt_X7_wanted
set_option maxRecDepth 100000 in
theorem kt_X7_kindsAbove : okT cX7_kindsAbove 1 7 false t_X7_kindsAbove = true := by decide +kernel
set_option maxRecDepth 100000 in
theorem k0_X7_kindsAbove : okM0 md_X7_kindsAbove = true := by decide +kernel
theorem ok_X7_kindsAbove : okMD md_X7_kindsAbove = true := okMD_of k0_X7_kindsAbove kt_X7_kindsAbove
set_option maxRecDepth 100000 in
theorem kt_X7_kindsBelow : okT cX7_kindsBelow 1 7 false t_X7_kindsBelow = true := by decide +kernel
set_option maxRecDepth 100000 in
theorem k0_X7_kindsBelow : okM0 md_X7_kindsBelow = true := by decide +kernel
theorem ok_X7_kindsBelow : okMD md_X7_kindsBelow = true := okMD_of k0_X7_kindsBelow kt_X7_kindsBelow
set_option maxRecDepth 100000 in
theorem kt_X7_isOperation : okT cX7_isOperation 1 7 false t_X7_isOperation = true := by decide +kernel
set_option maxRecDepth 100000 in
theorem k0_X7_isOperation : okM0 md_X7_isOperation = true := by decide +kernel
theorem ok_X7_isOperation : okMD md_X7_isOperation = true := okMD_of k0_X7_isOperation kt_X7_isOperation
set_option maxRecDepth 100000 in
theorem kt_X7_isInRange_0 : okT cX7_isInRange 1 7 false (t_X7_isInRange.take 20) = true := by decide +kernel
set_option maxRecDepth 100000 in
theorem kt_X7_isInRange_1 : okT cX7_isInRange 1 7 false ((t_X7_isInRange.drop 20).take 20) = true := by decide +kernel
set_option maxRecDepth 100000 in
theorem kt_X7_isInRange_2 : okT cX7_isInRange 1 7 false ((t_X7_isInRange.drop 20).drop 20) = true := by decide +kernel
theorem kt_X7_isInRange : okT cX7_isInRange 1 7 false t_X7_isInRange = true := okT_cut 20 kt_X7_isInRange_0 (okT_cut 20 kt_X7_isInRange_1 (kt_X7_isInRange_2))
set_option maxRecDepth 100000 in
theorem k0_X7_isInRange : okM0 md_X7_isInRange = true := by decide +kernel
theorem ok_X7_isInRange : okMD md_X7_isInRange = true := okMD_of k0_X7_isInRange kt_X7_isInRange
set_option maxRecDepth 100000 in
theorem kt_X7_goesToLabel : okT cX7_goesToLabel 1 7 false t_X7_goesToLabel = true := by decide +kernel
set_option maxRecDepth 100000 in
theorem k0_X7_goesToLabel : okM0 md_X7_goesToLabel = true := by decide +kernel
theorem ok_X7_goesToLabel : okMD md_X7_goesToLabel = true := okMD_of k0_X7_goesToLabel kt_X7_goesToLabel
set_option maxRecDepth 100000 in
theorem kt_X7_mostOfA : okT cX7_mostOfA 1 7 false t_X7_mostOfA = true := by decide +kernel
set_option maxRecDepth 100000 in
theorem k0_X7_mostOfA : okM0 md_X7_mostOfA = true := by decide +kernel
theorem ok_X7_mostOfA : okMD md_X7_mostOfA = true := okMD_of k0_X7_mostOfA kt_X7_mostOfA
set_option maxRecDepth 100000 in
theorem kt_X7_mostOfB : okT cX7_mostOfB 1 7 false t_X7_mostOfB = true := by decide +kernel
set_option maxRecDepth 100000 in
theorem k0_X7_mostOfB : okM0 md_X7_mostOfB = true := by decide +kernel
theorem ok_X7_mostOfB : okMD md_X7_mostOfB = true := okMD_of k0_X7_mostOfB kt_X7_mostOfB
set_option maxRecDepth 100000 in
theorem kt_X8_init_0 : okT cX8_init 3 8 true (t_X8_init.take 20) = true := by decide +kernel
set_option maxRecDepth 100000 in
theorem kt_X8_init_1 : okT cX8_init 3 8 true (t_X8_init.drop 20) = true := by decide +kernel
theorem kt_X8_init : okT cX8_init 3 8 true t_X8_init = true := okT_cut 20 kt_X8_init_0 (kt_X8_init_1)
set_option maxRecDepth 100000 in
theorem k0_X8_init : okM0 md_X8_init = true := by decide +kernel
theorem ok_X8_init : okMD md_X8_init = true := okMD_of k0_X8_init kt_X8_init
set_option maxRecDepth 100000 in
theorem kt_X8_asm : okT cX8_asm 4 8 false t_X8_asm = true := by decide +kernel
set_option maxRecDepth 100000 in
theorem k0_X8_asm : okM0 md_X8_asm = true := by decide +kernel
theorem ok_X8_asm : okMD md_X8_asm = true := okMD_of k0_X8_asm kt_X8_asm
set_option maxRecDepth 100000 in
theorem kt_X8_wipe : okT cX8_wipe 2 8 false t_X8_wipe = true := by decide +kernel
set_option maxRecDepth 100000 in
theorem k0_X8_wipe : okM0 md_X8_wipe = true := by decide +kernel
theorem ok_X8_wipe : okMD md_X8_wipe = true := okMD_of k0_X8_wipe kt_X8_wipe
set_option maxRecDepth 100000 in
theorem kt_X8_link : okT cX8_link 2 8 false t_X8_link = true := by decide +kernel
set_option maxRecDepth 100000 in
theorem k0_X8_link : okM0 md_X8_link = true := by decide +kernel
theorem ok_X8_link : okMD md_X8_link = true := okMD_of k0_X8_link kt_X8_link
set_option maxRecDepth 100000 in
theorem kt_X8_fault : okT cX8_fault 1 8 false t_X8_fault = true := by decide +kernel
set_option maxRecDepth 100000 in
theorem k0_X8_fault : okM0 md_X8_fault = true := by decide +kernel
theorem ok_X8_fault : okMD md_X8_fault = true := okMD_of k0_X8_fault kt_X8_fault
set_option maxRecDepth 100000 in
theorem kt_X8_step : okT cX8_step 1 8 false t_X8_step = true := by decide +kernel
set_option maxRecDepth 100000 in
theorem k0_X8_step : okM0 md_X8_step = true := by decide +kernel
theorem ok_X8_step : okMD md_X8_step = true := okMD_of k0_X8_step kt_X8_step
set_option maxRecDepth 100000 in
theorem kt_X8_run_0 : okT cX8_run 3 8 false (t_X8_run.take 20) = true := by decide +kernel
set_option maxRecDepth 100000 in
theorem kt_X8_run_1 : okT cX8_run 3 8 false (t_X8_run.drop 20) = true := by decide +kernel
theorem kt_X8_run : okT cX8_run 3 8 false t_X8_run = true := okT_cut 20 kt_X8_run_0 (kt_X8_run_1)
set_option maxRecDepth 100000 in
theorem k0_X8_run : okM0 md_X8_run = true := by decide +kernel
theorem ok_X8_run : okMD md_X8_run = true := okMD_of k0_X8_run kt_X8_run
set_option maxRecDepth 100000 in
theorem kt_X8_restart : okT cX8_restart 2 8 false t_X8_restart = true := by decide +kernel
set_option maxRecDepth 100000 in
theorem k0_X8_restart : okM0 md_X8_restart = true := by decide +kernel
theorem ok_X8_restart : okMD md_X8_restart = true := okMD_of k0_X8_restart kt_X8_restart
set_option maxRecDepth 100000 in
theorem kt_X8_collectMinor : okT cX8_collectMinor 1 8 false t_X8_collectMinor = true := by decide +kernel
set_option maxRecDepth 100000 in
theorem k0_X8_collectMinor : okM0 md_X8_collectMinor = true := by decide +kernel
theorem ok_X8_collectMinor : okMD md_X8_collectMinor = true := okMD_of k0_X8_collectMinor kt_X8_collectMinor
set_option maxRecDepth 100000 in
theorem kt_X8_collectMajor : okT cX8_collectMajor 1 8 false t_X8_collectMajor = true := by decide +kernel
set_option maxRecDepth 100000 in
theorem k0_X8_collectMajor : okM0 md_X8_collectMajor = true := by decide +kernel
theorem ok_X8_collectMajor : okMD md_X8_collectMajor = true := okMD_of k0_X8_collectMajor kt_X8_collectMajor
set_option maxRecDepth 100000 in
theorem kt_X8_many_0 : okT cX8_many 2 8 false (t_X8_many.take 20) = true := by decide +kernel
set_option maxRecDepth 100000 in
theorem kt_X8_many_1 : okT cX8_many 2 8 false (t_X8_many.drop 20) = true := by decide +kernel
theorem kt_X8_many : okT cX8_many 2 8 false t_X8_many = true := okT_cut 20 kt_X8_many_0 (kt_X8_many_1)
set_option maxRecDepth 100000 in
theorem k0_X8_many : okM0 md_X8_many = true := by decide +kernel
theorem ok_X8_many : okMD md_X8_many = true := okMD_of k0_X8_many kt_X8_many
set_option maxRecDepth 100000 in
theorem kt_X8_pile : okT cX8_pile 3 8 false t_X8_pile = true := by decide +kernel
set_option maxRecDepth 100000 in
theorem k0_X8_pile : okM0 md_X8_pile = true := by decide +kernel
theorem ok_X8_pile : okMD md_X8_pile = true := okMD_of k0_X8_pile kt_X8_pile
set_option maxRecDepth 100000 in
theorem kt_X8_local_0 : okT cX8_local 3 8 false (t_X8_local.take 20) = true := by decide +kernel
set_option maxRecDepth 100000 in
theorem kt_X8_local_1 : okT cX8_local 3 8 false (t_X8_local.drop 20) = true := by decide +kernel
theorem kt_X8_local : okT cX8_local 3 8 false t_X8_local = true := okT_cut 20 kt_X8_local_0 (kt_X8_local_1)
set_option maxRecDepth 100000 in
theorem k0_X8_local : okM0 md_X8_local = true := by decide +kernel
theorem ok_X8_local : okMD md_X8_local = true := okMD_of k0_X8_local kt_X8_local
set_option maxRecDepth 100000 in
theorem kt_X8_object_0 : okT cX8_object 4 8 false (t_X8_object.take 20) = true := by decide +kernel
set_option maxRecDepth 100000 in
theorem kt_X8_object_1 : okT cX8_object 4 8 false ((t_X8_object.drop 20).take 20) = true := by decide +kernel
set_option maxRecDepth 100000 in
theorem kt_X8_object_2 : okT cX8_object 4 8 false ((t_X8_object.drop 20).drop 20) = true := by decide +kernel
theorem kt_X8_object : okT cX8_object 4 8 false t_X8_object = true := okT_cut 20 kt_X8_object_0 (okT_cut 20 kt_X8_object_1 (kt_X8_object_2))
set_option maxRecDepth 100000 in
theorem k0_X8_object : okM0 md_X8_object = true := by decide +kernel
theorem ok_X8_object : okMD md_X8_object = true := okMD_of k0_X8_object kt_X8_object
set_option maxRecDepth 100000 in
theorem kt_X8_slot_0 : okT cX8_slot 5 8 false (t_X8_slot.take 20) = true := by decide +kernel
set_option maxRecDepth 100000 in
theorem kt_X8_slot_1 : okT cX8_slot 5 8 false (t_X8_slot.drop 20) = true := by decide +kernel
theorem kt_X8_slot : okT cX8_slot 5 8 false t_X8_slot = true := okT_cut 20 kt_X8_slot_0 (kt_X8_slot_1)
set_option maxRecDepth 100000 in
theorem k0_X8_slot : okM0 md_X8_slot = true := by decide +kernel
theorem ok_X8_slot : okMD md_X8_slot = true := okMD_of k0_X8_slot kt_X8_slot
set_option maxRecDepth 100000 in
theorem kt_X8_outSize : okT cX8_outSize 1 8 false t_X8_outSize = true := by decide +kernel
set_option maxRecDepth 100000 in
theorem k0_X8_outSize : okM0 md_X8_outSize = true := by decide +kernel
theorem ok_X8_outSize : okMD md_X8_outSize = true := okMD_of k0_X8_outSize kt_X8_outSize
set_option maxRecDepth 100000 in
theorem kt_X8_out : okT cX8_out 3 8 false t_X8_out = true := by decide +kernel
set_option maxRecDepth 100000 in
theorem k0_X8_out : okM0 md_X8_out = true := by decide +kernel
theorem ok_X8_out : okMD md_X8_out = true := okMD_of k0_X8_out kt_X8_out
set_option maxRecDepth 100000 in
theorem kt_X8_count_0 : okT cX8_count 2 8 false (t_X8_count.take 20) = true := by decide +kernel
set_option maxRecDepth 100000 in
theorem kt_X8_count_1 : okT cX8_count 2 8 false ((t_X8_count.drop 20).take 20) = true := by decide +kernel
set_option maxRecDepth 100000 in
theorem kt_X8_count_2 : okT cX8_count 2 8 false ((t_X8_count.drop 20).drop 20) = true := by decide +kernel
theorem kt_X8_count : okT cX8_count 2 8 false t_X8_count = true := okT_cut 20 kt_X8_count_0 (okT_cut 20 kt_X8_count_1 (kt_X8_count_2))
set_option maxRecDepth 100000 in
theorem k0_X8_count : okM0 md_X8_count = true := by decide +kernel
theorem ok_X8_count : okMD md_X8_count = true := okMD_of k0_X8_count kt_X8_count
set_option maxRecDepth 100000 in
theorem kt_X8_unlink : okT cX8_unlink 1 8 false t_X8_unlink = true := by decide +kernel
set_option maxRecDepth 100000 in
theorem k0_X8_unlink : okM0 md_X8_unlink = true := by decide +kernel
theorem ok_X8_unlink : okMD md_X8_unlink = true := okMD_of k0_X8_unlink kt_X8_unlink
set_option maxRecDepth 100000 in
theorem kt_X8_beginAnew_0 : okT cX8_beginAnew 1 8 false (t_X8_beginAnew.take 20) = true := by decide +kernel
set_option maxRecDepth 100000 in
theorem kt_X8_beginAnew_1 : okT cX8_beginAnew 1 8 false (t_X8_beginAnew.drop 20) = true := by decide +kernel
theorem kt_X8_beginAnew : okT cX8_beginAnew 1 8 false t_X8_beginAnew = true := okT_cut 20 kt_X8_beginAnew_0 (kt_X8_beginAnew_1)
set_option maxRecDepth 100000 in
theorem k0_X8_beginAnew : okM0 md_X8_beginAnew = true := by decide +kernel
theorem ok_X8_beginAnew : okMD md_X8_beginAnew = true := okMD_of k0_X8_beginAnew kt_X8_beginAnew
