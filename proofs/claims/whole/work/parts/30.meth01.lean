set_option maxRecDepth 100000 in
theorem kt_X2_unused_0 : okT cX2_unused 2 2 false (t_X2_unused.take 20) = true := by decide +kernel
set_option maxRecDepth 100000 in
theorem kt_X2_unused_1 : okT cX2_unused 2 2 false ((t_X2_unused.drop 20).take 20) = true := by decide +kernel
set_option maxRecDepth 100000 in
theorem kt_X2_unused_2 : okT cX2_unused 2 2 false ((t_X2_unused.drop 20).drop 20) = true := by decide +kernel
theorem kt_X2_unused : okT cX2_unused 2 2 false t_X2_unused = true := okT_cut 20 kt_X2_unused_0 (okT_cut 20 kt_X2_unused_1 (kt_X2_unused_2))
set_option maxRecDepth 100000 in
theorem k0_X2_unused : okM0 md_X2_unused = true := by decide +kernel
theorem ok_X2_unused : okMD md_X2_unused = true := okMD_of k0_X2_unused kt_X2_unused
set_option maxRecDepth 100000 in
theorem kt_X2_admit_0 : okT cX2_admit 4 2 false (t_X2_admit.take 20) = true := by decide +kernel
set_option maxRecDepth 100000 in
theorem kt_X2_admit_1 : okT cX2_admit 4 2 false (t_X2_admit.drop 20) = true := by decide +kernel
theorem kt_X2_admit : okT cX2_admit 4 2 false t_X2_admit = true := okT_cut 20 kt_X2_admit_0 (kt_X2_admit_1)
set_option maxRecDepth 100000 in
theorem k0_X2_admit : okM0 md_X2_admit = true := by decide +kernel
theorem ok_X2_admit : okMD md_X2_admit = true := okMD_of k0_X2_admit kt_X2_admit
set_option maxRecDepth 100000 in
theorem kt_X2_leaveNursery_0 : okT cX2_leaveNursery 2 2 false (t_X2_leaveNursery.take 20) = true := by decide +kernel
set_option maxRecDepth 100000 in
theorem kt_X2_leaveNursery_1 : okT cX2_leaveNursery 2 2 false (t_X2_leaveNursery.drop 20) = true := by decide +kernel
theorem kt_X2_leaveNursery : okT cX2_leaveNursery 2 2 false t_X2_leaveNursery = true := okT_cut 20 kt_X2_leaveNursery_0 (kt_X2_leaveNursery_1)
set_option maxRecDepth 100000 in
theorem k0_X2_leaveNursery : okM0 md_X2_leaveNursery = true := by decide +kernel
theorem ok_X2_leaveNursery : okMD md_X2_leaveNursery = true := okMD_of k0_X2_leaveNursery kt_X2_leaveNursery
set_option maxRecDepth 100000 in
theorem kt_X2_free_0 : okT cX2_free 2 2 false (t_X2_free.take 20) = true := by decide +kernel
set_option maxRecDepth 100000 in
theorem kt_X2_free_1 : okT cX2_free 2 2 false (t_X2_free.drop 20) = true := by decide +kernel
theorem kt_X2_free : okT cX2_free 2 2 false t_X2_free = true := okT_cut 20 kt_X2_free_0 (kt_X2_free_1)
set_option maxRecDepth 100000 in
theorem k0_X2_free : okM0 md_X2_free = true := by decide +kernel
theorem ok_X2_free : okMD md_X2_free = true := okMD_of k0_X2_free kt_X2_free
set_option maxRecDepth 100000 in
theorem kt_X2_youngMarked_0 : okT cX2_youngMarked 4 2 false (t_X2_youngMarked.take 20) = true := by decide +kernel
set_option maxRecDepth 100000 in
theorem kt_X2_youngMarked_1 : okT cX2_youngMarked 4 2 false (t_X2_youngMarked.drop 20) = true := by decide +kernel
theorem kt_X2_youngMarked : okT cX2_youngMarked 4 2 false t_X2_youngMarked = true := okT_cut 20 kt_X2_youngMarked_0 (kt_X2_youngMarked_1)
set_option maxRecDepth 100000 in
theorem k0_X2_youngMarked : okM0 md_X2_youngMarked = true := by decide +kernel
theorem ok_X2_youngMarked : okMD md_X2_youngMarked = true := okMD_of k0_X2_youngMarked kt_X2_youngMarked
set_option maxRecDepth 100000 in
theorem kt_X2_mark_0 : okT cX2_mark 4 2 false (t_X2_mark.take 20) = true := by decide +kernel
set_option maxRecDepth 100000 in
theorem kt_X2_mark_1 : okT cX2_mark 4 2 false ((t_X2_mark.drop 20).take 20) = true := by decide +kernel
set_option maxRecDepth 100000 in
theorem kt_X2_mark_2 : okT cX2_mark 4 2 false (((t_X2_mark.drop 20).drop 20).take 20) = true := by decide +kernel
set_option maxRecDepth 100000 in
theorem kt_X2_mark_3 : okT cX2_mark 4 2 false ((((t_X2_mark.drop 20).drop 20).drop 20).take 20) = true := by decide +kernel
set_option maxRecDepth 100000 in
theorem kt_X2_mark_4 : okT cX2_mark 4 2 false (((((t_X2_mark.drop 20).drop 20).drop 20).drop 20).take 20) = true := by decide +kernel
set_option maxRecDepth 100000 in
theorem kt_X2_mark_5 : okT cX2_mark 4 2 false ((((((t_X2_mark.drop 20).drop 20).drop 20).drop 20).drop 20).take 20) = true := by decide +kernel
set_option maxRecDepth 100000 in
theorem kt_X2_mark_6 : okT cX2_mark 4 2 false ((((((t_X2_mark.drop 20).drop 20).drop 20).drop 20).drop 20).drop 20) = true := by decide +kernel
theorem kt_X2_mark : okT cX2_mark 4 2 false t_X2_mark = true := okT_cut 20 kt_X2_mark_0 (okT_cut 20 kt_X2_mark_1 (okT_cut 20 kt_X2_mark_2 (okT_cut 20 kt_X2_mark_3 (okT_cut 20 kt_X2_mark_4 (okT_cut 20 kt_X2_mark_5 (kt_X2_mark_6))))))
set_option maxRecDepth 100000 in
theorem k0_X2_mark : okM0 md_X2_mark = true := by decide +kernel
theorem ok_X2_mark : okMD md_X2_mark = true := okMD_of k0_X2_mark kt_X2_mark
set_option maxRecDepth 100000 in
theorem kt_X2_reachRow : okT cX2_reachRow 4 2 false t_X2_reachRow = true := by decide +kernel
set_option maxRecDepth 100000 in
theorem k0_X2_reachRow : okM0 md_X2_reachRow = true := by decide +kernel
theorem ok_X2_reachRow : okMD md_X2_reachRow = true := okMD_of k0_X2_reachRow kt_X2_reachRow
set_option maxRecDepth 100000 in
theorem kt_X2_reach : okT cX2_reach 2 2 false t_X2_reach = true := by decide +kernel
set_option maxRecDepth 100000 in
theorem k0_X2_reach : okM0 md_X2_reach = true := by decide +kernel
theorem ok_X2_reach : okMD md_X2_reach = true := okMD_of k0_X2_reach kt_X2_reach
set_option maxRecDepth 100000 in
theorem kt_X3_init : okT cX3_init 1 3 true t_X3_init = true := by decide +kernel
set_option maxRecDepth 100000 in
theorem k0_X3_init : okM0 md_X3_init = true := by decide +kernel
theorem ok_X3_init : okMD md_X3_init = true := okMD_of k0_X3_init kt_X3_init
set_option maxRecDepth 100000 in
theorem kt_X3_isOf_0 : okT cX3_isOf 4 3 false (t_X3_isOf.take 20) = true := by decide +kernel
set_option maxRecDepth 100000 in
theorem kt_X3_isOf_1 : okT cX3_isOf 4 3 false (t_X3_isOf.drop 20) = true := by decide +kernel
theorem kt_X3_isOf : okT cX3_isOf 4 3 false t_X3_isOf = true := okT_cut 20 kt_X3_isOf_0 (kt_X3_isOf_1)
set_option maxRecDepth 100000 in
theorem k0_X3_isOf : okM0 md_X3_isOf = true := by decide +kernel
theorem ok_X3_isOf : okMD md_X3_isOf = true := okMD_of k0_X3_isOf kt_X3_isOf
set_option maxRecDepth 100000 in
theorem kt_X3_note_0 : okT cX3_note 5 3 false (t_X3_note.take 20) = true := by decide +kernel
set_option maxRecDepth 100000 in
theorem kt_X3_note_1 : okT cX3_note 5 3 false (t_X3_note.drop 20) = true := by decide +kernel
theorem kt_X3_note : okT cX3_note 5 3 false t_X3_note = true := okT_cut 20 kt_X3_note_0 (kt_X3_note_1)
set_option maxRecDepth 100000 in
theorem k0_X3_note : okM0 md_X3_note = true := by decide +kernel
theorem ok_X3_note : okMD md_X3_note = true := okMD_of k0_X3_note kt_X3_note
set_option maxRecDepth 100000 in
theorem kt_X3_hasNamesOf_0 : okT cX3_hasNamesOf 3 3 false (t_X3_hasNamesOf.take 20) = true := by decide +kernel
set_option maxRecDepth 100000 in
theorem kt_X3_hasNamesOf_1 : okT cX3_hasNamesOf 3 3 false (t_X3_hasNamesOf.drop 20) = true := by decide +kernel
theorem kt_X3_hasNamesOf : okT cX3_hasNamesOf 3 3 false t_X3_hasNamesOf = true := okT_cut 20 kt_X3_hasNamesOf_0 (kt_X3_hasNamesOf_1)
set_option maxRecDepth 100000 in
theorem k0_X3_hasNamesOf : okM0 md_X3_hasNamesOf = true := by decide +kernel
theorem ok_X3_hasNamesOf : okMD md_X3_hasNamesOf = true := okMD_of k0_X3_hasNamesOf kt_X3_hasNamesOf
set_option maxRecDepth 100000 in
theorem kt_X4_init : okT cX4_init 1 4 true t_X4_init = true := by decide +kernel
set_option maxRecDepth 100000 in
theorem k0_X4_init : okM0 md_X4_init = true := by decide +kernel
theorem ok_X4_init : okMD md_X4_init = true := okMD_of k0_X4_init kt_X4_init
set_option maxRecDepth 100000 in
theorem kt_X4_add : okT cX4_add 3 4 false t_X4_add = true := by decide +kernel
set_option maxRecDepth 100000 in
theorem k0_X4_add : okM0 md_X4_add = true := by decide +kernel
theorem ok_X4_add : okMD md_X4_add = true := okMD_of k0_X4_add kt_X4_add
set_option maxRecDepth 100000 in
theorem kt_X4_kept : okT cX4_kept 1 4 false t_X4_kept = true := by decide +kernel
set_option maxRecDepth 100000 in
theorem k0_X4_kept : okM0 md_X4_kept = true := by decide +kernel
theorem ok_X4_kept : okMD md_X4_kept = true := okMD_of k0_X4_kept kt_X4_kept
set_option maxRecDepth 100000 in
theorem kt_X5_init_0 : okT cX5_init 1 5 true (t_X5_init.take 20) = true := by decide +kernel
set_option maxRecDepth 100000 in
theorem kt_X5_init_1 : okT cX5_init 1 5 true (t_X5_init.drop 20) = true := by decide +kernel
theorem kt_X5_init : okT cX5_init 1 5 true t_X5_init = true := okT_cut 20 kt_X5_init_0 (kt_X5_init_1)
set_option maxRecDepth 100000 in
theorem k0_X5_init : okM0 md_X5_init = true := by decide +kernel
theorem ok_X5_init : okMD md_X5_init = true := okMD_of k0_X5_init kt_X5_init
set_option maxRecDepth 100000 in
theorem kt_X5_clear_0 : okT cX5_clear 2 5 false (t_X5_clear.take 20) = true := by decide +kernel
set_option maxRecDepth 100000 in
theorem kt_X5_clear_1 : okT cX5_clear 2 5 false (t_X5_clear.drop 20) = true := by decide +kernel
theorem kt_X5_clear : okT cX5_clear 2 5 false t_X5_clear = true := okT_cut 20 kt_X5_clear_0 (kt_X5_clear_1)
set_option maxRecDepth 100000 in
theorem k0_X5_clear : okM0 md_X5_clear = true := by decide +kernel
theorem ok_X5_clear : okMD md_X5_clear = true := okMD_of k0_X5_clear kt_X5_clear
set_option maxRecDepth 100000 in
theorem kt_X5_ofFrame : okT cX5_ofFrame 1 5 false t_X5_ofFrame = true := by decide +kernel
set_option maxRecDepth 100000 in
theorem k0_X5_ofFrame : okM0 md_X5_ofFrame = true := by decide +kernel
theorem ok_X5_ofFrame : okMD md_X5_ofFrame = true := okMD_of k0_X5_ofFrame kt_X5_ofFrame
set_option maxRecDepth 100000 in
theorem kt_X5_fromAbove : okT cX5_fromAbove 2 5 false t_X5_fromAbove = true := by decide +kernel
set_option maxRecDepth 100000 in
theorem k0_X5_fromAbove : okM0 md_X5_fromAbove = true := by decide +kernel
theorem ok_X5_fromAbove : okMD md_X5_fromAbove = true := okMD_of k0_X5_fromAbove kt_X5_fromAbove
set_option maxRecDepth 100000 in
theorem kt_X5_push : okT cX5_push 3 5 false t_X5_push = true := by decide +kernel
set_option maxRecDepth 100000 in
theorem k0_X5_push : okM0 md_X5_push = true := by decide +kernel
theorem ok_X5_push : okMD md_X5_push = true := okMD_of k0_X5_push kt_X5_push
set_option maxRecDepth 100000 in
theorem kt_X5_take : okT cX5_take 3 5 false t_X5_take = true := by decide +kernel
set_option maxRecDepth 100000 in
theorem k0_X5_take : okM0 md_X5_take = true := by decide +kernel
theorem ok_X5_take : okMD md_X5_take = true := okMD_of k0_X5_take kt_X5_take
set_option maxRecDepth 100000 in
theorem kt_X5_lower : okT cX5_lower 2 5 false t_X5_lower = true := by decide +kernel
set_option maxRecDepth 100000 in
theorem k0_X5_lower : okM0 md_X5_lower = true := by decide +kernel
theorem ok_X5_lower : okMD md_X5_lower = true := okMD_of k0_X5_lower kt_X5_lower
set_option maxRecDepth 100000 in
theorem kt_X5_enter_0 : okT cX5_enter 8 5 false (t_X5_enter.take 20) = true := by decide +kernel
set_option maxRecDepth 100000 in
theorem kt_X5_enter_1 : okT cX5_enter 8 5 false ((t_X5_enter.drop 20).take 20) = true := by decide +kernel
set_option maxRecDepth 100000 in
theorem kt_X5_enter_2 : okT cX5_enter 8 5 false ((t_X5_enter.drop 20).drop 20) = true := by decide +kernel
theorem kt_X5_enter : okT cX5_enter 8 5 false t_X5_enter = true := okT_cut 20 kt_X5_enter_0 (okT_cut 20 kt_X5_enter_1 (kt_X5_enter_2))
set_option maxRecDepth 100000 in
theorem k0_X5_enter : okM0 md_X5_enter = true := by decide +kernel
theorem ok_X5_enter : okMD md_X5_enter = true := okMD_of k0_X5_enter kt_X5_enter
set_option maxRecDepth 100000 in
theorem kt_X5_leave_0 : okT cX5_leave 3 5 false (t_X5_leave.take 20) = true := by decide +kernel
set_option maxRecDepth 100000 in
theorem kt_X5_leave_1 : okT cX5_leave 3 5 false (t_X5_leave.drop 20) = true := by decide +kernel
theorem kt_X5_leave : okT cX5_leave 3 5 false t_X5_leave = true := okT_cut 20 kt_X5_leave_0 (kt_X5_leave_1)
set_option maxRecDepth 100000 in
theorem k0_X5_leave : okM0 md_X5_leave = true := by decide +kernel
theorem ok_X5_leave : okMD md_X5_leave = true := okMD_of k0_X5_leave kt_X5_leave
set_option maxRecDepth 100000 in
theorem kt_X5_globalAt : okT cX5_globalAt 2 5 false t_X5_globalAt = true := by decide +kernel
set_option maxRecDepth 100000 in
theorem k0_X5_globalAt : okM0 md_X5_globalAt = true := by decide +kernel
theorem ok_X5_globalAt : okMD md_X5_globalAt = true := okMD_of k0_X5_globalAt kt_X5_globalAt
set_option maxRecDepth 100000 in
theorem kt_X5_putGlobal : okT cX5_putGlobal 4 5 false t_X5_putGlobal = true := by decide +kernel
set_option maxRecDepth 100000 in
theorem k0_X5_putGlobal : okM0 md_X5_putGlobal = true := by decide +kernel
theorem ok_X5_putGlobal : okMD md_X5_putGlobal = true := okMD_of k0_X5_putGlobal kt_X5_putGlobal
set_option maxRecDepth 100000 in
theorem kt_X5_protoOf : okT cX5_protoOf 2 5 false t_X5_protoOf = true := by decide +kernel
set_option maxRecDepth 100000 in
theorem k0_X5_protoOf : okM0 md_X5_protoOf = true := by decide +kernel
theorem ok_X5_protoOf : okMD md_X5_protoOf = true := okMD_of k0_X5_protoOf kt_X5_protoOf
set_option maxRecDepth 100000 in
theorem kt_X5_putProto : okT cX5_putProto 3 5 false t_X5_putProto = true := by decide +kernel
set_option maxRecDepth 100000 in
theorem k0_X5_putProto : okM0 md_X5_putProto = true := by decide +kernel
theorem ok_X5_putProto : okMD md_X5_putProto = true := okMD_of k0_X5_putProto kt_X5_putProto
