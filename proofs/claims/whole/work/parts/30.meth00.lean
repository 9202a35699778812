set_option maxRecDepth 100000 in
theorem kt_X0_init : okT cX0_init 1 0 true t_X0_init = true := by decide +kernel
set_option maxRecDepth 100000 in
theorem k0_X0_init : okM0 md_X0_init = true := by decide +kernel
theorem ok_X0_init : okMD md_X0_init = true := okMD_of k0_X0_init kt_X0_init
set_option maxRecDepth 100000 in
theorem kt_X0_add_0 : okT cX0_add 5 0 false (t_X0_add.take 20) = true := by decide +kernel
set_option maxRecDepth 100000 in
theorem kt_X0_add_1 : okT cX0_add 5 0 false ((t_X0_add.drop 20).take 20) = true := by decide +kernel
set_option maxRecDepth 100000 in
theorem kt_X0_add_2 : okT cX0_add 5 0 false ((t_X0_add.drop 20).drop 20) = true := by decide +kernel
theorem kt_X0_add : okT cX0_add 5 0 false t_X0_add = true := okT_cut 20 kt_X0_add_0 (okT_cut 20 kt_X0_add_1 (kt_X0_add_2))
set_option maxRecDepth 100000 in
theorem k0_X0_add : okM0 md_X0_add = true := by decide +kernel
theorem ok_X0_add : okMD md_X0_add = true := okMD_of k0_X0_add kt_X0_add
set_option maxRecDepth 100000 in
theorem kt_X0_wordAt : okT cX0_wordAt 2 0 false t_X0_wordAt = true := by decide +kernel
set_option maxRecDepth 100000 in
theorem k0_X0_wordAt : okM0 md_X0_wordAt = true := by decide +kernel
theorem ok_X0_wordAt : okMD md_X0_wordAt = true := okMD_of k0_X0_wordAt kt_X0_wordAt
set_option maxRecDepth 100000 in
theorem kt_X0_placeOf : okT cX0_placeOf 2 0 false t_X0_placeOf = true := by decide +kernel
set_option maxRecDepth 100000 in
theorem k0_X0_placeOf : okM0 md_X0_placeOf = true := by decide +kernel
theorem ok_X0_placeOf : okMD md_X0_placeOf = true := okMD_of k0_X0_placeOf kt_X0_placeOf
set_option maxRecDepth 100000 in
theorem kt_X0_forgetAll : okT cX0_forgetAll 2 0 false t_X0_forgetAll = true := by decide +kernel
set_option maxRecDepth 100000 in
theorem k0_X0_forgetAll : okM0 md_X0_forgetAll = true := by decide +kernel
theorem ok_X0_forgetAll : okMD md_X0_forgetAll = true := okMD_of k0_X0_forgetAll kt_X0_forgetAll
set_option maxRecDepth 100000 in
theorem kt_X0_firstFault_0 : okT cX0_firstFault 2 0 false (t_X0_firstFault.take 20) = true := by decide +kernel
set_option maxRecDepth 100000 in
theorem kt_X0_firstFault_1 : okT cX0_firstFault 2 0 false (t_X0_firstFault.drop 20) = true := by decide +kernel
theorem kt_X0_firstFault : okT cX0_firstFault 2 0 false t_X0_firstFault = true := okT_cut 20 kt_X0_firstFault_0 (kt_X0_firstFault_1)
set_option maxRecDepth 100000 in
theorem k0_X0_firstFault : okM0 md_X0_firstFault = true := by decide +kernel
theorem ok_X0_firstFault : okMD md_X0_firstFault = true := okMD_of k0_X0_firstFault kt_X0_firstFault
set_option maxRecDepth 100000 in
theorem kt_X0_layLabels_0 : okT cX0_layLabels 3 0 false (t_X0_layLabels.take 20) = true := by decide +kernel
set_option maxRecDepth 100000 in
theorem kt_X0_layLabels_1 : okT cX0_layLabels 3 0 false (t_X0_layLabels.drop 20) = true := by decide +kernel
theorem kt_X0_layLabels : okT cX0_layLabels 3 0 false t_X0_layLabels = true := okT_cut 20 kt_X0_layLabels_0 (kt_X0_layLabels_1)
set_option maxRecDepth 100000 in
theorem k0_X0_layLabels : okM0 md_X0_layLabels = true := by decide +kernel
theorem ok_X0_layLabels : okMD md_X0_layLabels = true := okMD_of k0_X0_layLabels kt_X0_layLabels
set_option maxRecDepth 100000 in
theorem kt_X0_faultOf_0 : okT cX0_faultOf 3 0 false (t_X0_faultOf.take 20) = true := by decide +kernel
set_option maxRecDepth 100000 in
theorem kt_X0_faultOf_1 : okT cX0_faultOf 3 0 false (t_X0_faultOf.drop 20) = true := by decide +kernel
theorem kt_X0_faultOf : okT cX0_faultOf 3 0 false t_X0_faultOf = true := okT_cut 20 kt_X0_faultOf_0 (kt_X0_faultOf_1)
set_option maxRecDepth 100000 in
theorem k0_X0_faultOf : okM0 md_X0_faultOf = true := by decide +kernel
theorem ok_X0_faultOf : okMD md_X0_faultOf = true := okMD_of k0_X0_faultOf kt_X0_faultOf
set_option maxRecDepth 100000 in
theorem kt_X1_init : okT cX1_init 2 1 true t_X1_init = true := by decide +kernel
set_option maxRecDepth 100000 in
theorem k0_X1_init : okM0 md_X1_init = true := by decide +kernel
theorem ok_X1_init : okMD md_X1_init = true := okMD_of k0_X1_init kt_X1_init
set_option maxRecDepth 100000 in
theorem kt_X1_begin : okT cX1_begin 4 1 false t_X1_begin = true := by decide +kernel
set_option maxRecDepth 100000 in
theorem k0_X1_begin : okM0 md_X1_begin = true := by decide +kernel
theorem ok_X1_begin : okMD md_X1_begin = true := okMD_of k0_X1_begin kt_X1_begin
set_option maxRecDepth 100000 in
theorem kt_X1_hasLocal : okT cX1_hasLocal 2 1 false t_X1_hasLocal = true := by decide +kernel
set_option maxRecDepth 100000 in
theorem k0_X1_hasLocal : okM0 md_X1_hasLocal = true := by decide +kernel
theorem ok_X1_hasLocal : okMD md_X1_hasLocal = true := okMD_of k0_X1_hasLocal kt_X1_hasLocal
set_option maxRecDepth 100000 in
theorem kt_X1_valueAt : okT cX1_valueAt 2 1 false t_X1_valueAt = true := by decide +kernel
set_option maxRecDepth 100000 in
theorem k0_X1_valueAt : okM0 md_X1_valueAt = true := by decide +kernel
theorem ok_X1_valueAt : okMD md_X1_valueAt = true := okMD_of k0_X1_valueAt kt_X1_valueAt
set_option maxRecDepth 100000 in
theorem kt_X1_put : okT cX1_put 4 1 false t_X1_put = true := by decide +kernel
set_option maxRecDepth 100000 in
theorem k0_X1_put : okM0 md_X1_put = true := by decide +kernel
theorem ok_X1_put : okMD md_X1_put = true := okMD_of k0_X1_put kt_X1_put
set_option maxRecDepth 100000 in
theorem kt_X2_init_0 : okT cX2_init 4 2 true (t_X2_init.take 20) = true := by decide +kernel
set_option maxRecDepth 100000 in
theorem kt_X2_init_1 : okT cX2_init 4 2 true (t_X2_init.drop 20) = true := by decide +kernel
theorem kt_X2_init : okT cX2_init 4 2 true t_X2_init = true := okT_cut 20 kt_X2_init_0 (kt_X2_init_1)
set_option maxRecDepth 100000 in
theorem k0_X2_init : okM0 md_X2_init = true := by decide +kernel
theorem ok_X2_init : okMD md_X2_init = true := okMD_of k0_X2_init kt_X2_init
set_option maxRecDepth 100000 in
theorem kt_X2_clear_0 : okT cX2_clear 1 2 false (t_X2_clear.take 20) = true := by decide +kernel
set_option maxRecDepth 100000 in
theorem kt_X2_clear_1 : okT cX2_clear 1 2 false (t_X2_clear.drop 20) = true := by decide +kernel
theorem kt_X2_clear : okT cX2_clear 1 2 false t_X2_clear = true := okT_cut 20 kt_X2_clear_0 (kt_X2_clear_1)
set_option maxRecDepth 100000 in
theorem k0_X2_clear : okM0 md_X2_clear = true := by decide +kernel
theorem ok_X2_clear : okMD md_X2_clear = true := okMD_of k0_X2_clear kt_X2_clear
set_option maxRecDepth 100000 in
theorem kt_X2_thingOf_0 : okT cX2_thingOf 4 2 false (t_X2_thingOf.take 20) = true := by decide +kernel
set_option maxRecDepth 100000 in
theorem kt_X2_thingOf_1 : okT cX2_thingOf 4 2 false (t_X2_thingOf.drop 20) = true := by decide +kernel
theorem kt_X2_thingOf : okT cX2_thingOf 4 2 false t_X2_thingOf = true := okT_cut 20 kt_X2_thingOf_0 (kt_X2_thingOf_1)
set_option maxRecDepth 100000 in
theorem k0_X2_thingOf : okM0 md_X2_thingOf = true := by decide +kernel
theorem ok_X2_thingOf : okMD md_X2_thingOf = true := okMD_of k0_X2_thingOf kt_X2_thingOf
set_option maxRecDepth 100000 in
theorem kt_X2_outward : okT cX2_outward 4 2 false t_X2_outward = true := by decide +kernel
set_option maxRecDepth 100000 in
theorem k0_X2_outward : okM0 md_X2_outward = true := by decide +kernel
theorem ok_X2_outward : okMD md_X2_outward = true := okMD_of k0_X2_outward kt_X2_outward
set_option maxRecDepth 100000 in
theorem kt_X2_withSerial_0 : okT cX2_withSerial 4 2 false (t_X2_withSerial.take 20) = true := by decide +kernel
set_option maxRecDepth 100000 in
theorem kt_X2_withSerial_1 : okT cX2_withSerial 4 2 false (t_X2_withSerial.drop 20) = true := by decide +kernel
theorem kt_X2_withSerial : okT cX2_withSerial 4 2 false t_X2_withSerial = true := okT_cut 20 kt_X2_withSerial_0 (kt_X2_withSerial_1)
set_option maxRecDepth 100000 in
theorem k0_X2_withSerial : okM0 md_X2_withSerial = true := by decide +kernel
theorem ok_X2_withSerial : okMD md_X2_withSerial = true := okMD_of k0_X2_withSerial kt_X2_withSerial
set_option maxRecDepth 100000 in
theorem kt_X2_make_0 : okT cX2_make 3 2 false (t_X2_make.take 20) = true := by decide +kernel
set_option maxRecDepth 100000 in
theorem kt_X2_make_1 : okT cX2_make 3 2 false ((t_X2_make.drop 20).take 20) = true := by decide +kernel
set_option maxRecDepth 100000 in
theorem kt_X2_make_2 : okT cX2_make 3 2 false ((t_X2_make.drop 20).drop 20) = true := by decide +kernel
theorem kt_X2_make : okT cX2_make 3 2 false t_X2_make = true := okT_cut 20 kt_X2_make_0 (okT_cut 20 kt_X2_make_1 (kt_X2_make_2))
set_option maxRecDepth 100000 in
theorem k0_X2_make : okM0 md_X2_make = true := by decide +kernel
theorem ok_X2_make : okMD md_X2_make = true := okMD_of k0_X2_make kt_X2_make
set_option maxRecDepth 100000 in
theorem kt_X2_addSlot_0 : okT cX2_addSlot 5 2 false (t_X2_addSlot.take 20) = true := by decide +kernel
set_option maxRecDepth 100000 in
theorem kt_X2_addSlot_1 : okT cX2_addSlot 5 2 false (t_X2_addSlot.drop 20) = true := by decide +kernel
theorem kt_X2_addSlot : okT cX2_addSlot 5 2 false t_X2_addSlot = true := okT_cut 20 kt_X2_addSlot_0 (kt_X2_addSlot_1)
set_option maxRecDepth 100000 in
theorem k0_X2_addSlot : okM0 md_X2_addSlot = true := by decide +kernel
theorem ok_X2_addSlot : okMD md_X2_addSlot = true := okMD_of k0_X2_addSlot kt_X2_addSlot
set_option maxRecDepth 100000 in
theorem kt_X2_removeSlot_0 : okT cX2_removeSlot 4 2 false (t_X2_removeSlot.take 20) = true := by decide +kernel
set_option maxRecDepth 100000 in
theorem kt_X2_removeSlot_1 : okT cX2_removeSlot 4 2 false ((t_X2_removeSlot.drop 20).take 20) = true := by decide +kernel
set_option maxRecDepth 100000 in
theorem kt_X2_removeSlot_2 : okT cX2_removeSlot 4 2 false ((t_X2_removeSlot.drop 20).drop 20) = true := by decide +kernel
theorem kt_X2_removeSlot : okT cX2_removeSlot 4 2 false t_X2_removeSlot = true := okT_cut 20 kt_X2_removeSlot_0 (okT_cut 20 kt_X2_removeSlot_1 (kt_X2_removeSlot_2))
set_option maxRecDepth 100000 in
theorem k0_X2_removeSlot : okM0 md_X2_removeSlot = true := by decide +kernel
theorem ok_X2_removeSlot : okMD md_X2_removeSlot = true := okMD_of k0_X2_removeSlot kt_X2_removeSlot
set_option maxRecDepth 100000 in
theorem kt_X2_hasRoomToMake_0 : okT cX2_hasRoomToMake 2 2 false (t_X2_hasRoomToMake.take 20) = true := by decide +kernel
set_option maxRecDepth 100000 in
theorem kt_X2_hasRoomToMake_1 : okT cX2_hasRoomToMake 2 2 false (t_X2_hasRoomToMake.drop 20) = true := by decide +kernel
theorem kt_X2_hasRoomToMake : okT cX2_hasRoomToMake 2 2 false t_X2_hasRoomToMake = true := okT_cut 20 kt_X2_hasRoomToMake_0 (kt_X2_hasRoomToMake_1)
set_option maxRecDepth 100000 in
theorem k0_X2_hasRoomToMake : okM0 md_X2_hasRoomToMake = true := by decide +kernel
theorem ok_X2_hasRoomToMake : okMD md_X2_hasRoomToMake = true := okMD_of k0_X2_hasRoomToMake kt_X2_hasRoomToMake
set_option maxRecDepth 100000 in
theorem kt_X2_hasRoomForSlot_0 : okT cX2_hasRoomForSlot 2 2 false (t_X2_hasRoomForSlot.take 20) = true := by decide +kernel
set_option maxRecDepth 100000 in
theorem kt_X2_hasRoomForSlot_1 : okT cX2_hasRoomForSlot 2 2 false (t_X2_hasRoomForSlot.drop 20) = true := by decide +kernel
theorem kt_X2_hasRoomForSlot : okT cX2_hasRoomForSlot 2 2 false t_X2_hasRoomForSlot = true := okT_cut 20 kt_X2_hasRoomForSlot_0 (kt_X2_hasRoomForSlot_1)
set_option maxRecDepth 100000 in
theorem k0_X2_hasRoomForSlot : okM0 md_X2_hasRoomForSlot = true := by decide +kernel
theorem ok_X2_hasRoomForSlot : okMD md_X2_hasRoomForSlot = true := okMD_of k0_X2_hasRoomForSlot kt_X2_hasRoomForSlot
set_option maxRecDepth 100000 in
theorem kt_X2_minor_0 : okT cX2_minor 4 2 false (t_X2_minor.take 20) = true := by decide +kernel
set_option maxRecDepth 100000 in
theorem kt_X2_minor_1 : okT cX2_minor 4 2 false ((t_X2_minor.drop 20).take 20) = true := by decide +kernel
set_option maxRecDepth 100000 in
theorem kt_X2_minor_2 : okT cX2_minor 4 2 false ((t_X2_minor.drop 20).drop 20) = true := by decide +kernel
theorem kt_X2_minor : okT cX2_minor 4 2 false t_X2_minor = true := okT_cut 20 kt_X2_minor_0 (okT_cut 20 kt_X2_minor_1 (kt_X2_minor_2))
set_option maxRecDepth 100000 in
theorem k0_X2_minor : okM0 md_X2_minor = true := by decide +kernel
theorem ok_X2_minor : okMD md_X2_minor = true := okMD_of k0_X2_minor kt_X2_minor
set_option maxRecDepth 100000 in
theorem kt_X2_major : okT cX2_major 1 2 false t_X2_major = true := by decide +kernel
set_option maxRecDepth 100000 in
theorem k0_X2_major : okM0 md_X2_major = true := by decide +kernel
theorem ok_X2_major : okMD md_X2_major = true := okMD_of k0_X2_major kt_X2_major
set_option maxRecDepth 100000 in
theorem kt_X2_youngLeft : okT cX2_youngLeft 1 2 false t_X2_youngLeft = true := by decide +kernel
set_option maxRecDepth 100000 in
theorem k0_X2_youngLeft : okM0 md_X2_youngLeft = true := by decide +kernel
theorem ok_X2_youngLeft : okMD md_X2_youngLeft = true := okMD_of k0_X2_youngLeft kt_X2_youngLeft
set_option maxRecDepth 100000 in
theorem kt_X2_oldLeft : okT cX2_oldLeft 1 2 false t_X2_oldLeft = true := by decide +kernel
set_option maxRecDepth 100000 in
theorem k0_X2_oldLeft : okM0 md_X2_oldLeft = true := by decide +kernel
theorem ok_X2_oldLeft : okMD md_X2_oldLeft = true := okMD_of k0_X2_oldLeft kt_X2_oldLeft
set_option maxRecDepth 100000 in
theorem kt_X2_freeUnmarked_0 : okT cX2_freeUnmarked 4 2 false (t_X2_freeUnmarked.take 20) = true := by decide +kernel
set_option maxRecDepth 100000 in
theorem kt_X2_freeUnmarked_1 : okT cX2_freeUnmarked 4 2 false (t_X2_freeUnmarked.drop 20) = true := by decide +kernel
theorem kt_X2_freeUnmarked : okT cX2_freeUnmarked 4 2 false t_X2_freeUnmarked = true := okT_cut 20 kt_X2_freeUnmarked_0 (kt_X2_freeUnmarked_1)
set_option maxRecDepth 100000 in
theorem k0_X2_freeUnmarked : okM0 md_X2_freeUnmarked = true := by decide +kernel
theorem ok_X2_freeUnmarked : okMD md_X2_freeUnmarked = true := okMD_of k0_X2_freeUnmarked kt_X2_freeUnmarked
