set_option maxRecDepth 100000 in
theorem kt_X9_oneStep_0 : okT cX9_oneStep 3 9 false (t_X9_oneStep.take 20) = true := by decide +kernel
set_option maxRecDepth 100000 in
theorem kt_X9_oneStep_1 : okT cX9_oneStep 3 9 false ((t_X9_oneStep.drop 20).take 20) = true := by decide +kernel
set_option maxRecDepth 100000 in
theorem kt_X9_oneStep_2 : okT cX9_oneStep 3 9 false (((t_X9_oneStep.drop 20).drop 20).take 20) = true := by decide +kernel
set_option maxRecDepth 100000 in
theorem kt_X9_oneStep_3 : okT cX9_oneStep 3 9 false ((((t_X9_oneStep.drop 20).drop 20).drop 20).take 20) = true := by decide +kernel
set_option maxRecDepth 100000 in
theorem kt_X9_oneStep_4 : okT cX9_oneStep 3 9 false (((((t_X9_oneStep.drop 20).drop 20).drop 20).drop 20).take 20) = true := by decide +kernel
set_option maxRecDepth 100000 in
theorem kt_X9_oneStep_5 : okT cX9_oneStep 3 9 false ((((((t_X9_oneStep.drop 20).drop 20).drop 20).drop 20).drop 20).take 20) = true := by decide +kernel
set_option maxRecDepth 100000 in
theorem kt_X9_oneStep_6 : okT cX9_oneStep 3 9 false (((((((t_X9_oneStep.drop 20).drop 20).drop 20).drop 20).drop 20).drop 20).take 20) = true := by decide +kernel
set_option maxRecDepth 100000 in
theorem kt_X9_oneStep_7 : okT cX9_oneStep 3 9 false (((((((t_X9_oneStep.drop 20).drop 20).drop 20).drop 20).drop 20).drop 20).drop 20) = true := by decide +kernel
theorem kt_X9_oneStep : okT cX9_oneStep 3 9 false t_X9_oneStep = true := okT_cut 20 kt_X9_oneStep_0 (okT_cut 20 kt_X9_oneStep_1 (okT_cut 20 kt_X9_oneStep_2 (okT_cut 20 kt_X9_oneStep_3 (okT_cut 20 kt_X9_oneStep_4 (okT_cut 20 kt_X9_oneStep_5 (okT_cut 20 kt_X9_oneStep_6 (kt_X9_oneStep_7)))))))
set_option maxRecDepth 100000 in
theorem k0_X9_oneStep : okM0 md_X9_oneStep = true := by decide +kernel
theorem ok_X9_oneStep : okMD md_X9_oneStep = true := okMD_of k0_X9_oneStep kt_X9_oneStep
set_option maxRecDepth 100000 in
theorem kt_X9_step : okT cX9_step 1 9 false t_X9_step = true := by decide +kernel
set_option maxRecDepth 100000 in
theorem k0_X9_step : okM0 md_X9_step = true := by decide +kernel
theorem ok_X9_step : okMD md_X9_step = true := okMD_of k0_X9_step kt_X9_step
set_option maxRecDepth 100000 in
theorem kt_X9_run_0 : okT cX9_run 3 9 false (t_X9_run.take 20) = true := by decide +kernel
set_option maxRecDepth 100000 in
theorem kt_X9_run_1 : okT cX9_run 3 9 false (t_X9_run.drop 20) = true := by decide +kernel
theorem kt_X9_run : okT cX9_run 3 9 false t_X9_run = true := okT_cut 20 kt_X9_run_0 (kt_X9_run_1)
set_option maxRecDepth 100000 in
theorem k0_X9_run : okM0 md_X9_run = true := by decide +kernel
theorem ok_X9_run : okMD md_X9_run = true := okMD_of k0_X9_run kt_X9_run
set_option maxRecDepth 100000 in
theorem kt_X9_restart : okT cX9_restart 2 9 false t_X9_restart = true := by decide +kernel
set_option maxRecDepth 100000 in
theorem k0_X9_restart : okM0 md_X9_restart = true := by decide +kernel
theorem ok_X9_restart : okMD md_X9_restart = true := okMD_of k0_X9_restart kt_X9_restart
set_option maxRecDepth 100000 in
theorem kt_X9_collectMinor : okT cX9_collectMinor 1 9 false t_X9_collectMinor = true := by decide +kernel
set_option maxRecDepth 100000 in
theorem k0_X9_collectMinor : okM0 md_X9_collectMinor = true := by decide +kernel
theorem ok_X9_collectMinor : okMD md_X9_collectMinor = true := okMD_of k0_X9_collectMinor kt_X9_collectMinor
set_option maxRecDepth 100000 in
theorem kt_X9_collectMajor : okT cX9_collectMajor 1 9 false t_X9_collectMajor = true := by decide +kernel
set_option maxRecDepth 100000 in
theorem k0_X9_collectMajor : okM0 md_X9_collectMajor = true := by decide +kernel
theorem ok_X9_collectMajor : okMD md_X9_collectMajor = true := okMD_of k0_X9_collectMajor kt_X9_collectMajor
set_option maxRecDepth 100000 in
theorem kt_X9_objects_0 : okT cX9_objects 4 9 false (t_X9_objects.take 20) = true := by decide +kernel
set_option maxRecDepth 100000 in
theorem kt_X9_objects_1 : okT cX9_objects 4 9 false (t_X9_objects.drop 20) = true := by decide +kernel
theorem kt_X9_objects : okT cX9_objects 4 9 false t_X9_objects = true := okT_cut 20 kt_X9_objects_0 (kt_X9_objects_1)
set_option maxRecDepth 100000 in
theorem k0_X9_objects : okM0 md_X9_objects = true := by decide +kernel
theorem ok_X9_objects : okMD md_X9_objects = true := okMD_of k0_X9_objects kt_X9_objects
set_option maxRecDepth 100000 in
theorem kt_X9_many_0 : okT cX9_many 2 9 false (t_X9_many.take 20) = true := by decide +kernel
set_option maxRecDepth 100000 in
theorem kt_X9_many_1 : okT cX9_many 2 9 false ((t_X9_many.drop 20).take 20) = true := by decide +kernel
set_option maxRecDepth 100000 in
theorem kt_X9_many_2 : okT cX9_many 2 9 false (((t_X9_many.drop 20).drop 20).take 20) = true := by decide +kernel
set_option maxRecDepth 100000 in
theorem kt_X9_many_3 : okT cX9_many 2 9 false (((t_X9_many.drop 20).drop 20).drop 20) = true := by decide +kernel
theorem kt_X9_many : okT cX9_many 2 9 false t_X9_many = true := okT_cut 20 kt_X9_many_0 (okT_cut 20 kt_X9_many_1 (okT_cut 20 kt_X9_many_2 (kt_X9_many_3)))
set_option maxRecDepth 100000 in
theorem k0_X9_many : okM0 md_X9_many = true := by decide +kernel
theorem ok_X9_many : okMD md_X9_many = true := okMD_of k0_X9_many kt_X9_many
set_option maxRecDepth 100000 in
theorem kt_X9_tell_0 : okT cX9_tell 4 9 false (t_X9_tell.take 20) = true := by decide +kernel
set_option maxRecDepth 100000 in
theorem kt_X9_tell_1 : okT cX9_tell 4 9 false (t_X9_tell.drop 20) = true := by decide +kernel
theorem kt_X9_tell : okT cX9_tell 4 9 false t_X9_tell = true := okT_cut 20 kt_X9_tell_0 (kt_X9_tell_1)
set_option maxRecDepth 100000 in
theorem k0_X9_tell : okM0 md_X9_tell = true := by decide +kernel
theorem ok_X9_tell : okMD md_X9_tell = true := okMD_of k0_X9_tell kt_X9_tell
set_option maxRecDepth 100000 in
theorem kt_X9_pile_0 : okT cX9_pile 3 9 false (t_X9_pile.take 20) = true := by decide +kernel
set_option maxRecDepth 100000 in
theorem kt_X9_pile_1 : okT cX9_pile 3 9 false (t_X9_pile.drop 20) = true := by decide +kernel
theorem kt_X9_pile : okT cX9_pile 3 9 false t_X9_pile = true := okT_cut 20 kt_X9_pile_0 (kt_X9_pile_1)
set_option maxRecDepth 100000 in
theorem k0_X9_pile : okM0 md_X9_pile = true := by decide +kernel
theorem ok_X9_pile : okMD md_X9_pile = true := okMD_of k0_X9_pile kt_X9_pile
set_option maxRecDepth 100000 in
theorem kt_X9_local__0 : okT cX9_local_ 4 9 false (t_X9_local_.take 20) = true := by decide +kernel
set_option maxRecDepth 100000 in
theorem kt_X9_local__1 : okT cX9_local_ 4 9 false ((t_X9_local_.drop 20).take 20) = true := by decide +kernel
set_option maxRecDepth 100000 in
theorem kt_X9_local__2 : okT cX9_local_ 4 9 false ((t_X9_local_.drop 20).drop 20) = true := by decide +kernel
theorem kt_X9_local_ : okT cX9_local_ 4 9 false t_X9_local_ = true := okT_cut 20 kt_X9_local__0 (okT_cut 20 kt_X9_local__1 (kt_X9_local__2))
set_option maxRecDepth 100000 in
theorem k0_X9_local_ : okM0 md_X9_local_ = true := by decide +kernel
theorem ok_X9_local_ : okMD md_X9_local_ = true := okMD_of k0_X9_local_ kt_X9_local_
set_option maxRecDepth 100000 in
theorem kt_X9_placeOf : okT cX9_placeOf 3 9 false t_X9_placeOf = true := by decide +kernel
set_option maxRecDepth 100000 in
theorem k0_X9_placeOf : okM0 md_X9_placeOf = true := by decide +kernel
theorem ok_X9_placeOf : okMD md_X9_placeOf = true := okMD_of k0_X9_placeOf kt_X9_placeOf
set_option maxRecDepth 100000 in
theorem kt_X9_object_0 : okT cX9_object 4 9 false (t_X9_object.take 20) = true := by decide +kernel
set_option maxRecDepth 100000 in
theorem kt_X9_object_1 : okT cX9_object 4 9 false ((t_X9_object.drop 20).take 20) = true := by decide +kernel
set_option maxRecDepth 100000 in
theorem kt_X9_object_2 : okT cX9_object 4 9 false ((t_X9_object.drop 20).drop 20) = true := by decide +kernel
theorem kt_X9_object : okT cX9_object 4 9 false t_X9_object = true := okT_cut 20 kt_X9_object_0 (okT_cut 20 kt_X9_object_1 (kt_X9_object_2))
set_option maxRecDepth 100000 in
theorem k0_X9_object : okM0 md_X9_object = true := by decide +kernel
theorem ok_X9_object : okMD md_X9_object = true := okMD_of k0_X9_object kt_X9_object
set_option maxRecDepth 100000 in
theorem kt_X9_slot_0 : okT cX9_slot 6 9 false (t_X9_slot.take 20) = true := by decide +kernel
set_option maxRecDepth 100000 in
theorem kt_X9_slot_1 : okT cX9_slot 6 9 false ((t_X9_slot.drop 20).take 20) = true := by decide +kernel
set_option maxRecDepth 100000 in
theorem kt_X9_slot_2 : okT cX9_slot 6 9 false ((t_X9_slot.drop 20).drop 20) = true := by decide +kernel
theorem kt_X9_slot : okT cX9_slot 6 9 false t_X9_slot = true := okT_cut 20 kt_X9_slot_0 (okT_cut 20 kt_X9_slot_1 (kt_X9_slot_2))
set_option maxRecDepth 100000 in
theorem k0_X9_slot : okM0 md_X9_slot = true := by decide +kernel
theorem ok_X9_slot : okMD md_X9_slot = true := okMD_of k0_X9_slot kt_X9_slot
set_option maxRecDepth 100000 in
theorem kt_X9_outSize : okT cX9_outSize 1 9 false t_X9_outSize = true := by decide +kernel
set_option maxRecDepth 100000 in
theorem k0_X9_outSize : okM0 md_X9_outSize = true := by decide +kernel
theorem ok_X9_outSize : okMD md_X9_outSize = true := okMD_of k0_X9_outSize kt_X9_outSize
set_option maxRecDepth 100000 in
theorem kt_X9_out_0 : okT cX9_out 3 9 false (t_X9_out.take 20) = true := by decide +kernel
set_option maxRecDepth 100000 in
theorem kt_X9_out_1 : okT cX9_out 3 9 false (t_X9_out.drop 20) = true := by decide +kernel
theorem kt_X9_out : okT cX9_out 3 9 false t_X9_out = true := okT_cut 20 kt_X9_out_0 (kt_X9_out_1)
set_option maxRecDepth 100000 in
theorem k0_X9_out : okM0 md_X9_out = true := by decide +kernel
theorem ok_X9_out : okMD md_X9_out = true := okMD_of k0_X9_out kt_X9_out
set_option maxRecDepth 100000 in
theorem kt_J7_fill_d0a16 : okT cJ7_fill_d0a16 5 12 false t_J7_fill_d0a16 = true := by decide +kernel
set_option maxRecDepth 100000 in
theorem k0_J7_fill_d0a16 : okM0 md_J7_fill_d0a16 = true := by decide +kernel
theorem ok_J7_fill_d0a16 : okMD md_J7_fill_d0a16 = true := okMD_of k0_J7_fill_d0a16 kt_J7_fill_d0a16
set_option maxRecDepth 100000 in
theorem kt_J7_fill_53178 : okT cJ7_fill_53178 4 12 false t_J7_fill_53178 = true := by decide +kernel
set_option maxRecDepth 100000 in
theorem k0_J7_fill_53178 : okM0 md_J7_fill_53178 = true := by decide +kernel
theorem ok_J7_fill_53178 : okMD md_J7_fill_53178 = true := okMD_of k0_J7_fill_53178 kt_J7_fill_53178
set_option maxRecDepth 100000 in
theorem kt_L_cell : okT cL_cell 2 10 false t_L_cell = true := by decide +kernel
set_option maxRecDepth 100000 in
theorem k0_L_cell : okM0 md_L_cell = true := by decide +kernel
theorem ok_L_cell : okMD md_L_cell = true := okMD_of k0_L_cell kt_L_cell
