set_option maxRecDepth 100000 in
theorem kt_X9_minor_0 : okT cX9_minor 3 9 false (t_X9_minor.take 20) = true := by decide +kernel
set_option maxRecDepth 100000 in
theorem kt_X9_minor_1 : okT cX9_minor 3 9 false ((t_X9_minor.drop 20).take 20) = true := by decide +kernel
set_option maxRecDepth 100000 in
theorem kt_X9_minor_2 : okT cX9_minor 3 9 false (((t_X9_minor.drop 20).drop 20).take 20) = true := by decide +kernel
set_option maxRecDepth 100000 in
theorem kt_X9_minor_3 : okT cX9_minor 3 9 false ((((t_X9_minor.drop 20).drop 20).drop 20).take 20) = true := by decide +kernel
set_option maxRecDepth 100000 in
theorem kt_X9_minor_4 : okT cX9_minor 3 9 false ((((t_X9_minor.drop 20).drop 20).drop 20).drop 20) = true := by decide +kernel
theorem kt_X9_minor : okT cX9_minor 3 9 false t_X9_minor = true := okT_cut 20 kt_X9_minor_0 (okT_cut 20 kt_X9_minor_1 (okT_cut 20 kt_X9_minor_2 (okT_cut 20 kt_X9_minor_3 (kt_X9_minor_4))))
set_option maxRecDepth 100000 in
theorem k0_X9_minor : okM0 md_X9_minor = true := by decide +kernel
theorem ok_X9_minor : okMD md_X9_minor = true := okMD_of k0_X9_minor kt_X9_minor
set_option maxRecDepth 100000 in
theorem kt_X9_greatHas_0 : okT cX9_greatHas 3 9 false (t_X9_greatHas.take 20) = true := by decide +kernel
set_option maxRecDepth 100000 in
theorem kt_X9_greatHas_1 : okT cX9_greatHas 3 9 false (t_X9_greatHas.drop 20) = true := by decide +kernel
theorem kt_X9_greatHas : okT cX9_greatHas 3 9 false t_X9_greatHas = true := okT_cut 20 kt_X9_greatHas_0 (kt_X9_greatHas_1)
set_option maxRecDepth 100000 in
theorem k0_X9_greatHas : okM0 md_X9_greatHas = true := by decide +kernel
theorem ok_X9_greatHas : okMD md_X9_greatHas = true := okMD_of k0_X9_greatHas kt_X9_greatHas
set_option maxRecDepth 100000 in
theorem kt_X9_make_0 : okT cX9_make 4 9 false (t_X9_make.take 20) = true := by decide +kernel
set_option maxRecDepth 100000 in
theorem kt_X9_make_1 : okT cX9_make 4 9 false ((t_X9_make.drop 20).take 20) = true := by decide +kernel
set_option maxRecDepth 100000 in
theorem kt_X9_make_2 : okT cX9_make 4 9 false (((t_X9_make.drop 20).drop 20).take 20) = true := by decide +kernel
set_option maxRecDepth 100000 in
theorem kt_X9_make_3 : okT cX9_make 4 9 false ((((t_X9_make.drop 20).drop 20).drop 20).take 20) = true := by decide +kernel
set_option maxRecDepth 100000 in
theorem kt_X9_make_4 : okT cX9_make 4 9 false ((((t_X9_make.drop 20).drop 20).drop 20).drop 20) = true := by decide +kernel
theorem kt_X9_make : okT cX9_make 4 9 false t_X9_make = true := okT_cut 20 kt_X9_make_0 (okT_cut 20 kt_X9_make_1 (okT_cut 20 kt_X9_make_2 (okT_cut 20 kt_X9_make_3 (kt_X9_make_4))))
set_option maxRecDepth 100000 in
theorem k0_X9_make : okM0 md_X9_make = true := by decide +kernel
theorem ok_X9_make : okMD md_X9_make = true := okMD_of k0_X9_make kt_X9_make
set_option maxRecDepth 100000 in
theorem kt_X9_widen_0 : okT cX9_widen 2 9 false (t_X9_widen.take 20) = true := by decide +kernel
set_option maxRecDepth 100000 in
theorem kt_X9_widen_1 : okT cX9_widen 2 9 false ((t_X9_widen.drop 20).take 20) = true := by decide +kernel
set_option maxRecDepth 100000 in
theorem kt_X9_widen_2 : okT cX9_widen 2 9 false ((t_X9_widen.drop 20).drop 20) = true := by decide +kernel
theorem kt_X9_widen : okT cX9_widen 2 9 false t_X9_widen = true := okT_cut 20 kt_X9_widen_0 (okT_cut 20 kt_X9_widen_1 (kt_X9_widen_2))
set_option maxRecDepth 100000 in
theorem k0_X9_widen : okM0 md_X9_widen = true := by decide +kernel
theorem ok_X9_widen : okMD md_X9_widen = true := okMD_of k0_X9_widen kt_X9_widen
set_option maxRecDepth 100000 in
theorem kt_X9_topKind : okT cX9_topKind 2 9 false t_X9_topKind = true := by decide +kernel
set_option maxRecDepth 100000 in
theorem k0_X9_topKind : okM0 md_X9_topKind = true := by decide +kernel
theorem ok_X9_topKind : okMD md_X9_topKind = true := okMD_of k0_X9_topKind kt_X9_topKind
set_option maxRecDepth 100000 in
theorem kt_X9_topNumber : okT cX9_topNumber 2 9 false t_X9_topNumber = true := by decide +kernel
set_option maxRecDepth 100000 in
theorem k0_X9_topNumber : okM0 md_X9_topNumber = true := by decide +kernel
theorem ok_X9_topNumber : okMD md_X9_topNumber = true := okMD_of k0_X9_topNumber kt_X9_topNumber
set_option maxRecDepth 100000 in
theorem kt_X9_push : okT cX9_push 3 9 false t_X9_push = true := by decide +kernel
set_option maxRecDepth 100000 in
theorem k0_X9_push : okM0 md_X9_push = true := by decide +kernel
theorem ok_X9_push : okMD md_X9_push = true := okMD_of k0_X9_push kt_X9_push
set_option maxRecDepth 100000 in
theorem kt_X9_ends : okT cX9_ends 2 9 false t_X9_ends = true := by decide +kernel
set_option maxRecDepth 100000 in
theorem k0_X9_ends : okM0 md_X9_ends = true := by decide +kernel
theorem ok_X9_ends : okMD md_X9_ends = true := okMD_of k0_X9_ends kt_X9_ends
set_option maxRecDepth 100000 in
theorem kt_X9_well : okT cX9_well 2 9 false t_X9_well = true := by decide +kernel
set_option maxRecDepth 100000 in
theorem k0_X9_well : okM0 md_X9_well = true := by decide +kernel
theorem ok_X9_well : okMD md_X9_well = true := okMD_of k0_X9_well kt_X9_well
set_option maxRecDepth 100000 in
theorem kt_X9_chainOf : okT cX9_chainOf 3 9 false t_X9_chainOf = true := by decide +kernel
set_option maxRecDepth 100000 in
theorem k0_X9_chainOf : okM0 md_X9_chainOf = true := by decide +kernel
theorem ok_X9_chainOf : okMD md_X9_chainOf = true := okMD_of k0_X9_chainOf kt_X9_chainOf
set_option maxRecDepth 100000 in
theorem kt_X9_ownSlot_0 : okT cX9_ownSlot 4 9 false (t_X9_ownSlot.take 20) = true := by decide +kernel
set_option maxRecDepth 100000 in
theorem kt_X9_ownSlot_1 : okT cX9_ownSlot 4 9 false (t_X9_ownSlot.drop 20) = true := by decide +kernel
theorem kt_X9_ownSlot : okT cX9_ownSlot 4 9 false t_X9_ownSlot = true := okT_cut 20 kt_X9_ownSlot_0 (kt_X9_ownSlot_1)
set_option maxRecDepth 100000 in
theorem k0_X9_ownSlot : okM0 md_X9_ownSlot = true := by decide +kernel
theorem ok_X9_ownSlot : okMD md_X9_ownSlot = true := okMD_of k0_X9_ownSlot kt_X9_ownSlot
set_option maxRecDepth 100000 in
theorem kt_X9_find_0 : okT cX9_find 6 9 false (t_X9_find.take 20) = true := by decide +kernel
set_option maxRecDepth 100000 in
theorem kt_X9_find_1 : okT cX9_find 6 9 false (t_X9_find.drop 20) = true := by decide +kernel
theorem kt_X9_find : okT cX9_find 6 9 false t_X9_find = true := okT_cut 20 kt_X9_find_0 (kt_X9_find_1)
set_option maxRecDepth 100000 in
theorem k0_X9_find : okM0 md_X9_find = true := by decide +kernel
theorem ok_X9_find : okMD md_X9_find = true := okMD_of k0_X9_find kt_X9_find
set_option maxRecDepth 100000 in
theorem kt_X9_touch : okT cX9_touch 2 9 false t_X9_touch = true := by decide +kernel
set_option maxRecDepth 100000 in
theorem k0_X9_touch : okM0 md_X9_touch = true := by decide +kernel
theorem ok_X9_touch : okMD md_X9_touch = true := okMD_of k0_X9_touch kt_X9_touch
set_option maxRecDepth 100000 in
theorem kt_X9_serialAt : okT cX9_serialAt 2 9 false t_X9_serialAt = true := by decide +kernel
set_option maxRecDepth 100000 in
theorem k0_X9_serialAt : okM0 md_X9_serialAt = true := by decide +kernel
theorem ok_X9_serialAt : okMD md_X9_serialAt = true := okMD_of k0_X9_serialAt kt_X9_serialAt
set_option maxRecDepth 100000 in
theorem kt_X9_remembers_0 : okT cX9_remembers 6 9 false (t_X9_remembers.take 20) = true := by decide +kernel
set_option maxRecDepth 100000 in
theorem kt_X9_remembers_1 : okT cX9_remembers 6 9 false ((t_X9_remembers.drop 20).take 20) = true := by decide +kernel
set_option maxRecDepth 100000 in
theorem kt_X9_remembers_2 : okT cX9_remembers 6 9 false (((t_X9_remembers.drop 20).drop 20).take 20) = true := by decide +kernel
set_option maxRecDepth 100000 in
theorem kt_X9_remembers_3 : okT cX9_remembers 6 9 false ((((t_X9_remembers.drop 20).drop 20).drop 20).take 20) = true := by decide +kernel
set_option maxRecDepth 100000 in
theorem kt_X9_remembers_4 : okT cX9_remembers 6 9 false ((((t_X9_remembers.drop 20).drop 20).drop 20).drop 20) = true := by decide +kernel
theorem kt_X9_remembers : okT cX9_remembers 6 9 false t_X9_remembers = true := okT_cut 20 kt_X9_remembers_0 (okT_cut 20 kt_X9_remembers_1 (okT_cut 20 kt_X9_remembers_2 (okT_cut 20 kt_X9_remembers_3 (kt_X9_remembers_4))))
set_option maxRecDepth 100000 in
theorem k0_X9_remembers : okM0 md_X9_remembers = true := by decide +kernel
theorem ok_X9_remembers : okMD md_X9_remembers = true := okMD_of k0_X9_remembers kt_X9_remembers
set_option maxRecDepth 100000 in
theorem kt_X9_isCalm_0 : okT cX9_isCalm 5 9 false (t_X9_isCalm.take 20) = true := by decide +kernel
set_option maxRecDepth 100000 in
theorem kt_X9_isCalm_1 : okT cX9_isCalm 5 9 false (t_X9_isCalm.drop 20) = true := by decide +kernel
theorem kt_X9_isCalm : okT cX9_isCalm 5 9 false t_X9_isCalm = true := okT_cut 20 kt_X9_isCalm_0 (kt_X9_isCalm_1)
set_option maxRecDepth 100000 in
theorem k0_X9_isCalm : okM0 md_X9_isCalm = true := by decide +kernel
theorem ok_X9_isCalm : okMD md_X9_isCalm = true := okMD_of k0_X9_isCalm kt_X9_isCalm
set_option maxRecDepth 100000 in
theorem kt_X9_meet_0 : okT cX9_meet 5 9 false (t_X9_meet.take 20) = true := by decide +kernel
set_option maxRecDepth 100000 in
theorem kt_X9_meet_1 : okT cX9_meet 5 9 false ((t_X9_meet.drop 20).take 20) = true := by decide +kernel
set_option maxRecDepth 100000 in
theorem kt_X9_meet_2 : okT cX9_meet 5 9 false (((t_X9_meet.drop 20).drop 20).take 20) = true := by decide +kernel
set_option maxRecDepth 100000 in
theorem kt_X9_meet_3 : okT cX9_meet 5 9 false ((((t_X9_meet.drop 20).drop 20).drop 20).take 20) = true := by decide +kernel
set_option maxRecDepth 100000 in
theorem kt_X9_meet_4 : okT cX9_meet 5 9 false ((((t_X9_meet.drop 20).drop 20).drop 20).drop 20) = true := by decide +kernel
theorem kt_X9_meet : okT cX9_meet 5 9 false t_X9_meet = true := okT_cut 20 kt_X9_meet_0 (okT_cut 20 kt_X9_meet_1 (okT_cut 20 kt_X9_meet_2 (okT_cut 20 kt_X9_meet_3 (kt_X9_meet_4))))
set_option maxRecDepth 100000 in
theorem k0_X9_meet : okM0 md_X9_meet = true := by decide +kernel
theorem ok_X9_meet : okMD md_X9_meet = true := okMD_of k0_X9_meet kt_X9_meet
set_option maxRecDepth 100000 in
theorem kt_X9_wants : okT cX9_wants 2 9 false t_X9_wants = true := by decide +kernel
set_option maxRecDepth 100000 in
theorem k0_X9_wants : okM0 md_X9_wants = true := by decide +kernel
theorem ok_X9_wants : okMD md_X9_wants = true := okMD_of k0_X9_wants kt_X9_wants
set_option maxRecDepth 100000 in
theorem kt_X9_put : okT cX9_put 3 9 false t_X9_put = true := by decide +kernel
set_option maxRecDepth 100000 in
theorem k0_X9_put : okM0 md_X9_put = true := by decide +kernel
theorem ok_X9_put : okMD md_X9_put = true := okMD_of k0_X9_put kt_X9_put
