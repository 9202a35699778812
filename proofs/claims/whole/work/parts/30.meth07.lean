set_option maxRecDepth 100000 in
theorem kt_X9_reckon_0 : okT cX9_reckon 8 9 false (t_X9_reckon.take 20) = true := by decide +kernel
set_option maxRecDepth 100000 in
theorem kt_X9_reckon_1 : okT cX9_reckon 8 9 false ((t_X9_reckon.drop 20).take 20) = true := by decide +kernel
set_option maxRecDepth 100000 in
theorem kt_X9_reckon_2 : okT cX9_reckon 8 9 false (((t_X9_reckon.drop 20).drop 20).take 20) = true := by decide +kernel
set_option maxRecDepth 100000 in
theorem kt_X9_reckon_3 : okT cX9_reckon 8 9 false ((((t_X9_reckon.drop 20).drop 20).drop 20).take 20) = true := by decide +kernel
set_option maxRecDepth 100000 in
theorem kt_X9_reckon_4 : okT cX9_reckon 8 9 false (((((t_X9_reckon.drop 20).drop 20).drop 20).drop 20).take 20) = true := by decide +kernel
set_option maxRecDepth 100000 in
theorem kt_X9_reckon_5 : okT cX9_reckon 8 9 false (((((t_X9_reckon.drop 20).drop 20).drop 20).drop 20).drop 20) = true := by decide +kernel
theorem kt_X9_reckon : okT cX9_reckon 8 9 false t_X9_reckon = true := okT_cut 20 kt_X9_reckon_0 (okT_cut 20 kt_X9_reckon_1 (okT_cut 20 kt_X9_reckon_2 (okT_cut 20 kt_X9_reckon_3 (okT_cut 20 kt_X9_reckon_4 (kt_X9_reckon_5)))))
set_option maxRecDepth 100000 in
theorem k0_X9_reckon : okM0 md_X9_reckon = true := by decide +kernel
theorem ok_X9_reckon : okMD md_X9_reckon = true := okMD_of k0_X9_reckon kt_X9_reckon
set_option maxRecDepth 100000 in
theorem kt_X9_fresh_0 : okT cX9_fresh 2 9 false (t_X9_fresh.take 20) = true := by decide +kernel
set_option maxRecDepth 100000 in
theorem kt_X9_fresh_1 : okT cX9_fresh 2 9 false ((t_X9_fresh.drop 20).take 20) = true := by decide +kernel
set_option maxRecDepth 100000 in
theorem kt_X9_fresh_2 : okT cX9_fresh 2 9 false ((t_X9_fresh.drop 20).drop 20) = true := by decide +kernel
theorem kt_X9_fresh : okT cX9_fresh 2 9 false t_X9_fresh = true := okT_cut 20 kt_X9_fresh_0 (okT_cut 20 kt_X9_fresh_1 (kt_X9_fresh_2))
set_option maxRecDepth 100000 in
theorem k0_X9_fresh : okM0 md_X9_fresh = true := by decide +kernel
theorem ok_X9_fresh : okMD md_X9_fresh = true := okMD_of k0_X9_fresh kt_X9_fresh
set_option maxRecDepth 100000 in
theorem kt_X9_copy_0 : okT cX9_copy 4 9 false (t_X9_copy.take 20) = true := by decide +kernel
set_option maxRecDepth 100000 in
theorem kt_X9_copy_1 : okT cX9_copy 4 9 false ((t_X9_copy.drop 20).take 20) = true := by decide +kernel
set_option maxRecDepth 100000 in
theorem kt_X9_copy_2 : okT cX9_copy 4 9 false (((t_X9_copy.drop 20).drop 20).take 20) = true := by decide +kernel
set_option maxRecDepth 100000 in
theorem kt_X9_copy_3 : okT cX9_copy 4 9 false ((((t_X9_copy.drop 20).drop 20).drop 20).take 20) = true := by decide +kernel
set_option maxRecDepth 100000 in
theorem kt_X9_copy_4 : okT cX9_copy 4 9 false (((((t_X9_copy.drop 20).drop 20).drop 20).drop 20).take 20) = true := by decide +kernel
set_option maxRecDepth 100000 in
theorem kt_X9_copy_5 : okT cX9_copy 4 9 false (((((t_X9_copy.drop 20).drop 20).drop 20).drop 20).drop 20) = true := by decide +kernel
theorem kt_X9_copy : okT cX9_copy 4 9 false t_X9_copy = true := okT_cut 20 kt_X9_copy_0 (okT_cut 20 kt_X9_copy_1 (okT_cut 20 kt_X9_copy_2 (okT_cut 20 kt_X9_copy_3 (okT_cut 20 kt_X9_copy_4 (kt_X9_copy_5)))))
set_option maxRecDepth 100000 in
theorem k0_X9_copy : okM0 md_X9_copy = true := by decide +kernel
theorem ok_X9_copy : okMD md_X9_copy = true := okMD_of k0_X9_copy kt_X9_copy
set_option maxRecDepth 100000 in
theorem kt_X9_get_0 : okT cX9_get 3 9 false (t_X9_get.take 20) = true := by decide +kernel
set_option maxRecDepth 100000 in
theorem kt_X9_get_1 : okT cX9_get 3 9 false ((t_X9_get.drop 20).take 20) = true := by decide +kernel
set_option maxRecDepth 100000 in
theorem kt_X9_get_2 : okT cX9_get 3 9 false ((t_X9_get.drop 20).drop 20) = true := by decide +kernel
theorem kt_X9_get : okT cX9_get 3 9 false t_X9_get = true := okT_cut 20 kt_X9_get_0 (okT_cut 20 kt_X9_get_1 (kt_X9_get_2))
set_option maxRecDepth 100000 in
theorem k0_X9_get : okM0 md_X9_get = true := by decide +kernel
theorem ok_X9_get : okMD md_X9_get = true := okMD_of k0_X9_get kt_X9_get
set_option maxRecDepth 100000 in
theorem kt_X9_set_0 : okT cX9_set 4 9 false (t_X9_set.take 20) = true := by decide +kernel
set_option maxRecDepth 100000 in
theorem kt_X9_set_1 : okT cX9_set 4 9 false ((t_X9_set.drop 20).take 20) = true := by decide +kernel
set_option maxRecDepth 100000 in
theorem kt_X9_set_2 : okT cX9_set 4 9 false (((t_X9_set.drop 20).drop 20).take 20) = true := by decide +kernel
set_option maxRecDepth 100000 in
theorem kt_X9_set_3 : okT cX9_set 4 9 false ((((t_X9_set.drop 20).drop 20).drop 20).take 20) = true := by decide +kernel
set_option maxRecDepth 100000 in
theorem kt_X9_set_4 : okT cX9_set 4 9 false ((((t_X9_set.drop 20).drop 20).drop 20).drop 20) = true := by decide +kernel
theorem kt_X9_set : okT cX9_set 4 9 false t_X9_set = true := okT_cut 20 kt_X9_set_0 (okT_cut 20 kt_X9_set_1 (okT_cut 20 kt_X9_set_2 (okT_cut 20 kt_X9_set_3 (kt_X9_set_4))))
set_option maxRecDepth 100000 in
theorem k0_X9_set : okM0 md_X9_set = true := by decide +kernel
theorem ok_X9_set : okMD md_X9_set = true := okMD_of k0_X9_set kt_X9_set
set_option maxRecDepth 100000 in
theorem kt_X9_drop_0 : okT cX9_drop 5 9 false (t_X9_drop.take 20) = true := by decide +kernel
set_option maxRecDepth 100000 in
theorem kt_X9_drop_1 : okT cX9_drop 5 9 false ((t_X9_drop.drop 20).take 20) = true := by decide +kernel
set_option maxRecDepth 100000 in
theorem kt_X9_drop_2 : okT cX9_drop 5 9 false (((t_X9_drop.drop 20).drop 20).take 20) = true := by decide +kernel
set_option maxRecDepth 100000 in
theorem kt_X9_drop_3 : okT cX9_drop 5 9 false ((((t_X9_drop.drop 20).drop 20).drop 20).take 20) = true := by decide +kernel
set_option maxRecDepth 100000 in
theorem kt_X9_drop_4 : okT cX9_drop 5 9 false (((((t_X9_drop.drop 20).drop 20).drop 20).drop 20).take 20) = true := by decide +kernel
set_option maxRecDepth 100000 in
theorem kt_X9_drop_5 : okT cX9_drop 5 9 false (((((t_X9_drop.drop 20).drop 20).drop 20).drop 20).drop 20) = true := by decide +kernel
theorem kt_X9_drop : okT cX9_drop 5 9 false t_X9_drop = true := okT_cut 20 kt_X9_drop_0 (okT_cut 20 kt_X9_drop_1 (okT_cut 20 kt_X9_drop_2 (okT_cut 20 kt_X9_drop_3 (okT_cut 20 kt_X9_drop_4 (kt_X9_drop_5)))))
set_option maxRecDepth 100000 in
theorem k0_X9_drop : okM0 md_X9_drop = true := by decide +kernel
theorem ok_X9_drop : okMD md_X9_drop = true := okMD_of k0_X9_drop kt_X9_drop
set_option maxRecDepth 100000 in
theorem kt_X9_parent_0 : okT cX9_parent 2 9 false (t_X9_parent.take 20) = true := by decide +kernel
set_option maxRecDepth 100000 in
theorem kt_X9_parent_1 : okT cX9_parent 2 9 false ((t_X9_parent.drop 20).take 20) = true := by decide +kernel
set_option maxRecDepth 100000 in
theorem kt_X9_parent_2 : okT cX9_parent 2 9 false ((t_X9_parent.drop 20).drop 20) = true := by decide +kernel
theorem kt_X9_parent : okT cX9_parent 2 9 false t_X9_parent = true := okT_cut 20 kt_X9_parent_0 (okT_cut 20 kt_X9_parent_1 (kt_X9_parent_2))
set_option maxRecDepth 100000 in
theorem k0_X9_parent : okM0 md_X9_parent = true := by decide +kernel
theorem ok_X9_parent : okMD md_X9_parent = true := okMD_of k0_X9_parent kt_X9_parent
set_option maxRecDepth 100000 in
theorem kt_X9_adopt_0 : okT cX9_adopt 4 9 false (t_X9_adopt.take 20) = true := by decide +kernel
set_option maxRecDepth 100000 in
theorem kt_X9_adopt_1 : okT cX9_adopt 4 9 false ((t_X9_adopt.drop 20).take 20) = true := by decide +kernel
set_option maxRecDepth 100000 in
theorem kt_X9_adopt_2 : okT cX9_adopt 4 9 false (((t_X9_adopt.drop 20).drop 20).take 20) = true := by decide +kernel
set_option maxRecDepth 100000 in
theorem kt_X9_adopt_3 : okT cX9_adopt 4 9 false (((t_X9_adopt.drop 20).drop 20).drop 20) = true := by decide +kernel
theorem kt_X9_adopt : okT cX9_adopt 4 9 false t_X9_adopt = true := okT_cut 20 kt_X9_adopt_0 (okT_cut 20 kt_X9_adopt_1 (okT_cut 20 kt_X9_adopt_2 (kt_X9_adopt_3)))
set_option maxRecDepth 100000 in
theorem k0_X9_adopt : okM0 md_X9_adopt = true := by decide +kernel
theorem ok_X9_adopt : okMD md_X9_adopt = true := okMD_of k0_X9_adopt kt_X9_adopt
set_option maxRecDepth 100000 in
theorem kt_X9_proto_0 : okT cX9_proto 2 9 false (t_X9_proto.take 20) = true := by decide +kernel
set_option maxRecDepth 100000 in
theorem kt_X9_proto_1 : okT cX9_proto 2 9 false (t_X9_proto.drop 20) = true := by decide +kernel
theorem kt_X9_proto : okT cX9_proto 2 9 false t_X9_proto = true := okT_cut 20 kt_X9_proto_0 (kt_X9_proto_1)
set_option maxRecDepth 100000 in
theorem k0_X9_proto : okM0 md_X9_proto = true := by decide +kernel
theorem ok_X9_proto : okMD md_X9_proto = true := okMD_of k0_X9_proto kt_X9_proto
