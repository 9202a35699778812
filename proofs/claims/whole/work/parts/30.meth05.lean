set_option maxRecDepth 100000 in
theorem kt_X9_asm_0 : okT cX9_asm 4 9 false (t_X9_asm.take 20) = true := by decide +kernel
set_option maxRecDepth 100000 in
theorem kt_X9_asm_1 : okT cX9_asm 4 9 false (t_X9_asm.drop 20) = true := by decide +kernel
theorem kt_X9_asm : okT cX9_asm 4 9 false t_X9_asm = true := okT_cut 20 kt_X9_asm_0 (kt_X9_asm_1)
set_option maxRecDepth 100000 in
theorem k0_X9_asm : okM0 md_X9_asm = true := by decide +kernel
theorem ok_X9_asm : okMD md_X9_asm = true := okMD_of k0_X9_asm kt_X9_asm
set_option maxRecDepth 100000 in
theorem kt_X9_wipe : okT cX9_wipe 2 9 false t_X9_wipe = true := by decide +kernel
set_option maxRecDepth 100000 in
theorem k0_X9_wipe : okM0 md_X9_wipe = true := by decide +kernel
theorem ok_X9_wipe : okMD md_X9_wipe = true := okMD_of k0_X9_wipe kt_X9_wipe
set_option maxRecDepth 100000 in
theorem kt_X9_isIn : okT cX9_isIn 3 9 false t_X9_isIn = true := by decide +kernel
set_option maxRecDepth 100000 in
theorem k0_X9_isIn : okM0 md_X9_isIn = true := by decide +kernel
theorem ok_X9_isIn : okMD md_X9_isIn = true := okMD_of k0_X9_isIn kt_X9_isIn
set_option maxRecDepth 100000 in
theorem kt_X9_aFits_0 : okT cX9_aFits 2 9 false (t_X9_aFits.take 20) = true := by decide +kernel
set_option maxRecDepth 100000 in
theorem kt_X9_aFits_1 : okT cX9_aFits 2 9 false (t_X9_aFits.drop 20) = true := by decide +kernel
theorem kt_X9_aFits : okT cX9_aFits 2 9 false t_X9_aFits = true := okT_cut 20 kt_X9_aFits_0 (kt_X9_aFits_1)
set_option maxRecDepth 100000 in
theorem k0_X9_aFits : okM0 md_X9_aFits = true := by decide +kernel
theorem ok_X9_aFits : okMD md_X9_aFits = true := okMD_of k0_X9_aFits kt_X9_aFits
set_option maxRecDepth 100000 in
theorem kt_X9_bFits_0 : okT cX9_bFits 3 9 false (t_X9_bFits.take 20) = true := by decide +kernel
set_option maxRecDepth 100000 in
theorem kt_X9_bFits_1 : okT cX9_bFits 3 9 false (t_X9_bFits.drop 20) = true := by decide +kernel
theorem kt_X9_bFits : okT cX9_bFits 3 9 false t_X9_bFits = true := okT_cut 20 kt_X9_bFits_0 (kt_X9_bFits_1)
set_option maxRecDepth 100000 in
theorem k0_X9_bFits : okM0 md_X9_bFits = true := by decide +kernel
theorem ok_X9_bFits : okMD md_X9_bFits = true := okMD_of k0_X9_bFits kt_X9_bFits
set_option maxRecDepth 100000 in
theorem kt_X9_namesLabel : okT cX9_namesLabel 1 9 false t_X9_namesLabel = true := by decide +kernel
set_option maxRecDepth 100000 in
theorem k0_X9_namesLabel : okM0 md_X9_namesLabel = true := by decide +kernel
theorem ok_X9_namesLabel : okMD md_X9_namesLabel = true := okMD_of k0_X9_namesLabel kt_X9_namesLabel
set_option maxRecDepth 100000 in
theorem kt_X9_faultOf_0 : okT cX9_faultOf 2 9 false (t_X9_faultOf.take 20) = true := by decide +kernel
set_option maxRecDepth 100000 in
theorem kt_X9_faultOf_1 : okT cX9_faultOf 2 9 false ((t_X9_faultOf.drop 20).take 20) = true := by decide +kernel
set_option maxRecDepth 100000 in
theorem kt_X9_faultOf_2 : okT cX9_faultOf 2 9 false (((t_X9_faultOf.drop 20).drop 20).take 20) = true := by decide +kernel
set_option maxRecDepth 100000 in
theorem kt_X9_faultOf_3 : okT cX9_faultOf 2 9 false (((t_X9_faultOf.drop 20).drop 20).drop 20) = true := by decide +kernel
theorem kt_X9_faultOf : okT cX9_faultOf 2 9 false t_X9_faultOf = true := okT_cut 20 kt_X9_faultOf_0 (okT_cut 20 kt_X9_faultOf_1 (okT_cut 20 kt_X9_faultOf_2 (kt_X9_faultOf_3)))
set_option maxRecDepth 100000 in
theorem k0_X9_faultOf : okM0 md_X9_faultOf = true := by decide +kernel
theorem ok_X9_faultOf : okMD md_X9_faultOf = true := okMD_of k0_X9_faultOf kt_X9_faultOf
set_option maxRecDepth 100000 in
theorem kt_X9_link_0 : okT cX9_link 2 9 false (t_X9_link.take 20) = true := by decide +kernel
set_option maxRecDepth 100000 in
theorem kt_X9_link_1 : okT cX9_link 2 9 false ((t_X9_link.drop 20).take 20) = true := by decide +kernel
set_option maxRecDepth 100000 in
theorem kt_X9_link_2 : okT cX9_link 2 9 false (((t_X9_link.drop 20).drop 20).take 20) = true := by decide +kernel
set_option maxRecDepth 100000 in
theorem kt_X9_link_3 : okT cX9_link 2 9 false ((((t_X9_link.drop 20).drop 20).drop 20).take 20) = true := by decide +kernel
set_option maxRecDepth 100000 in
theorem kt_X9_link_4 : okT cX9_link 2 9 false ((((t_X9_link.drop 20).drop 20).drop 20).drop 20) = true := by decide +kernel
theorem kt_X9_link : okT cX9_link 2 9 false t_X9_link = true := okT_cut 20 kt_X9_link_0 (okT_cut 20 kt_X9_link_1 (okT_cut 20 kt_X9_link_2 (okT_cut 20 kt_X9_link_3 (kt_X9_link_4))))
set_option maxRecDepth 100000 in
theorem k0_X9_link : okM0 md_X9_link = true := by decide +kernel
theorem ok_X9_link : okMD md_X9_link = true := okMD_of k0_X9_link kt_X9_link
set_option maxRecDepth 100000 in
theorem kt_X9_fault : okT cX9_fault 1 9 false t_X9_fault = true := by decide +kernel
set_option maxRecDepth 100000 in
theorem k0_X9_fault : okM0 md_X9_fault = true := by decide +kernel
theorem ok_X9_fault : okMD md_X9_fault = true := okMD_of k0_X9_fault kt_X9_fault
set_option maxRecDepth 100000 in
theorem kt_X9_sizeOf : okT cX9_sizeOf 2 9 false t_X9_sizeOf = true := by decide +kernel
set_option maxRecDepth 100000 in
theorem k0_X9_sizeOf : okM0 md_X9_sizeOf = true := by decide +kernel
theorem ok_X9_sizeOf : okMD md_X9_sizeOf = true := okMD_of k0_X9_sizeOf kt_X9_sizeOf
set_option maxRecDepth 100000 in
theorem kt_X9_mark_0 : okT cX9_mark 3 9 false (t_X9_mark.take 20) = true := by decide +kernel
set_option maxRecDepth 100000 in
theorem kt_X9_mark_1 : okT cX9_mark 3 9 false (t_X9_mark.drop 20) = true := by decide +kernel
theorem kt_X9_mark : okT cX9_mark 3 9 false t_X9_mark = true := okT_cut 20 kt_X9_mark_0 (kt_X9_mark_1)
set_option maxRecDepth 100000 in
theorem k0_X9_mark : okM0 md_X9_mark = true := by decide +kernel
theorem ok_X9_mark : okMD md_X9_mark = true := okMD_of k0_X9_mark kt_X9_mark
set_option maxRecDepth 100000 in
theorem kt_X9_reach_0 : okT cX9_reach 5 9 false (t_X9_reach.take 20) = true := by decide +kernel
set_option maxRecDepth 100000 in
theorem kt_X9_reach_1 : okT cX9_reach 5 9 false ((t_X9_reach.drop 20).take 20) = true := by decide +kernel
set_option maxRecDepth 100000 in
theorem kt_X9_reach_2 : okT cX9_reach 5 9 false (((t_X9_reach.drop 20).drop 20).take 20) = true := by decide +kernel
set_option maxRecDepth 100000 in
theorem kt_X9_reach_3 : okT cX9_reach 5 9 false ((((t_X9_reach.drop 20).drop 20).drop 20).take 20) = true := by decide +kernel
set_option maxRecDepth 100000 in
theorem kt_X9_reach_4 : okT cX9_reach 5 9 false (((((t_X9_reach.drop 20).drop 20).drop 20).drop 20).take 20) = true := by decide +kernel
set_option maxRecDepth 100000 in
theorem kt_X9_reach_5 : okT cX9_reach 5 9 false ((((((t_X9_reach.drop 20).drop 20).drop 20).drop 20).drop 20).take 20) = true := by decide +kernel
set_option maxRecDepth 100000 in
theorem kt_X9_reach_6 : okT cX9_reach 5 9 false (((((((t_X9_reach.drop 20).drop 20).drop 20).drop 20).drop 20).drop 20).take 20) = true := by decide +kernel
set_option maxRecDepth 100000 in
theorem kt_X9_reach_7 : okT cX9_reach 5 9 false ((((((((t_X9_reach.drop 20).drop 20).drop 20).drop 20).drop 20).drop 20).drop 20).take 20) = true := by decide +kernel
set_option maxRecDepth 100000 in
theorem kt_X9_reach_8 : okT cX9_reach 5 9 false (((((((((t_X9_reach.drop 20).drop 20).drop 20).drop 20).drop 20).drop 20).drop 20).drop 20).take 20) = true := by decide +kernel
set_option maxRecDepth 100000 in
theorem kt_X9_reach_9 : okT cX9_reach 5 9 false (((((((((t_X9_reach.drop 20).drop 20).drop 20).drop 20).drop 20).drop 20).drop 20).drop 20).drop 20) = true := by decide +kernel
theorem kt_X9_reach : okT cX9_reach 5 9 false t_X9_reach = true := okT_cut 20 kt_X9_reach_0 (okT_cut 20 kt_X9_reach_1 (okT_cut 20 kt_X9_reach_2 (okT_cut 20 kt_X9_reach_3 (okT_cut 20 kt_X9_reach_4 (okT_cut 20 kt_X9_reach_5 (okT_cut 20 kt_X9_reach_6 (okT_cut 20 kt_X9_reach_7 (okT_cut 20 kt_X9_reach_8 (kt_X9_reach_9)))))))))
set_option maxRecDepth 100000 in
theorem k0_X9_reach : okM0 md_X9_reach = true := by decide +kernel
theorem ok_X9_reach : okMD md_X9_reach = true := okMD_of k0_X9_reach kt_X9_reach
set_option maxRecDepth 100000 in
theorem kt_X9_free_0 : okT cX9_free 2 9 false (t_X9_free.take 20) = true := by decide +kernel
set_option maxRecDepth 100000 in
theorem kt_X9_free_1 : okT cX9_free 2 9 false (t_X9_free.drop 20) = true := by decide +kernel
theorem kt_X9_free : okT cX9_free 2 9 false t_X9_free = true := okT_cut 20 kt_X9_free_0 (kt_X9_free_1)
set_option maxRecDepth 100000 in
theorem k0_X9_free : okM0 md_X9_free = true := by decide +kernel
theorem ok_X9_free : okMD md_X9_free = true := okMD_of k0_X9_free kt_X9_free
set_option maxRecDepth 100000 in
theorem kt_X9_major_0 : okT cX9_major 3 9 false (t_X9_major.take 20) = true := by decide +kernel
set_option maxRecDepth 100000 in
theorem kt_X9_major_1 : okT cX9_major 3 9 false ((t_X9_major.drop 20).take 20) = true := by decide +kernel
set_option maxRecDepth 100000 in
theorem kt_X9_major_2 : okT cX9_major 3 9 false ((t_X9_major.drop 20).drop 20) = true := by decide +kernel
theorem kt_X9_major : okT cX9_major 3 9 false t_X9_major = true := okT_cut 20 kt_X9_major_0 (okT_cut 20 kt_X9_major_1 (kt_X9_major_2))
set_option maxRecDepth 100000 in
theorem k0_X9_major : okM0 md_X9_major = true := by decide +kernel
theorem ok_X9_major : okMD md_X9_major = true := okMD_of k0_X9_major kt_X9_major
set_option maxRecDepth 100000 in
theorem kt_X9_heldCells_0 : okT cX9_heldCells 3 9 false (t_X9_heldCells.take 20) = true := by decide +kernel
set_option maxRecDepth 100000 in
theorem kt_X9_heldCells_1 : okT cX9_heldCells 3 9 false (t_X9_heldCells.drop 20) = true := by decide +kernel
theorem kt_X9_heldCells : okT cX9_heldCells 3 9 false t_X9_heldCells = true := okT_cut 20 kt_X9_heldCells_0 (kt_X9_heldCells_1)
set_option maxRecDepth 100000 in
theorem k0_X9_heldCells : okM0 md_X9_heldCells = true := by decide +kernel
theorem ok_X9_heldCells : okMD md_X9_heldCells = true := okMD_of k0_X9_heldCells kt_X9_heldCells
