set_option maxRecDepth 100000 in
theorem kt_X8_drop_0 : okT cX8_drop 4 8 false (t_X8_drop.take 20) = true := by decide +kernel
set_option maxRecDepth 100000 in
theorem kt_X8_drop_1 : okT cX8_drop 4 8 false (t_X8_drop.drop 20) = true := by decide +kernel
theorem kt_X8_drop : okT cX8_drop 4 8 false t_X8_drop = true := okT_cut 20 kt_X8_drop_0 (kt_X8_drop_1)
set_option maxRecDepth 100000 in
theorem k0_X8_drop : okM0 md_X8_drop = true := by decide +kernel
theorem ok_X8_drop : okMD md_X8_drop = true := okMD_of k0_X8_drop kt_X8_drop
set_option maxRecDepth 100000 in
theorem kt_X8_parent : okT cX8_parent 2 8 false t_X8_parent = true := by decide +kernel
set_option maxRecDepth 100000 in
theorem k0_X8_parent : okM0 md_X8_parent = true := by decide +kernel
theorem ok_X8_parent : okMD md_X8_parent = true := okMD_of k0_X8_parent kt_X8_parent
set_option maxRecDepth 100000 in
theorem kt_X8_adopt_0 : okT cX8_adopt 4 8 false (t_X8_adopt.take 20) = true := by decide +kernel
set_option maxRecDepth 100000 in
theorem kt_X8_adopt_1 : okT cX8_adopt 4 8 false ((t_X8_adopt.drop 20).take 20) = true := by decide +kernel
set_option maxRecDepth 100000 in
theorem kt_X8_adopt_2 : okT cX8_adopt 4 8 false ((t_X8_adopt.drop 20).drop 20) = true := by decide +kernel
theorem kt_X8_adopt : okT cX8_adopt 4 8 false t_X8_adopt = true := okT_cut 20 kt_X8_adopt_0 (okT_cut 20 kt_X8_adopt_1 (kt_X8_adopt_2))
set_option maxRecDepth 100000 in
theorem k0_X8_adopt : okM0 md_X8_adopt = true := by decide +kernel
theorem ok_X8_adopt : okMD md_X8_adopt = true := okMD_of k0_X8_adopt kt_X8_adopt
set_option maxRecDepth 100000 in
theorem kt_X8_proto : okT cX8_proto 2 8 false t_X8_proto = true := by decide +kernel
set_option maxRecDepth 100000 in
theorem k0_X8_proto : okM0 md_X8_proto = true := by decide +kernel
theorem ok_X8_proto : okMD md_X8_proto = true := okMD_of k0_X8_proto kt_X8_proto
set_option maxRecDepth 100000 in
theorem kt_X8_send_0 : okT cX8_send 8 8 false (t_X8_send.take 20) = true := by decide +kernel
set_option maxRecDepth 100000 in
theorem kt_X8_send_1 : okT cX8_send 8 8 false ((t_X8_send.drop 20).take 20) = true := by decide +kernel
set_option maxRecDepth 100000 in
theorem kt_X8_send_2 : okT cX8_send 8 8 false ((t_X8_send.drop 20).drop 20) = true := by decide +kernel
theorem kt_X8_send : okT cX8_send 8 8 false t_X8_send = true := okT_cut 20 kt_X8_send_0 (okT_cut 20 kt_X8_send_1 (kt_X8_send_2))
set_option maxRecDepth 100000 in
theorem k0_X8_send : okM0 md_X8_send = true := by decide +kernel
theorem ok_X8_send : okMD md_X8_send = true := okMD_of k0_X8_send kt_X8_send
set_option maxRecDepth 100000 in
theorem kt_X8_call_0 : okT cX8_call 6 8 false (t_X8_call.take 20) = true := by decide +kernel
set_option maxRecDepth 100000 in
theorem kt_X8_call_1 : okT cX8_call 6 8 false ((t_X8_call.drop 20).take 20) = true := by decide +kernel
set_option maxRecDepth 100000 in
theorem kt_X8_call_2 : okT cX8_call 6 8 false ((t_X8_call.drop 20).drop 20) = true := by decide +kernel
theorem kt_X8_call : okT cX8_call 6 8 false t_X8_call = true := okT_cut 20 kt_X8_call_0 (okT_cut 20 kt_X8_call_1 (kt_X8_call_2))
set_option maxRecDepth 100000 in
theorem k0_X8_call : okM0 md_X8_call = true := by decide +kernel
theorem ok_X8_call : okMD md_X8_call = true := okMD_of k0_X8_call kt_X8_call
set_option maxRecDepth 100000 in
theorem kt_X8_answer : okT cX8_answer 4 8 false t_X8_answer = true := by decide +kernel
set_option maxRecDepth 100000 in
theorem k0_X8_answer : okM0 md_X8_answer = true := by decide +kernel
theorem ok_X8_answer : okMD md_X8_answer = true := okMD_of k0_X8_answer kt_X8_answer
set_option maxRecDepth 100000 in
theorem kt_X8_chainOf : okT cX8_chainOf 4 8 false t_X8_chainOf = true := by decide +kernel
set_option maxRecDepth 100000 in
theorem k0_X8_chainOf : okM0 md_X8_chainOf = true := by decide +kernel
theorem ok_X8_chainOf : okMD md_X8_chainOf = true := okMD_of k0_X8_chainOf kt_X8_chainOf
set_option maxRecDepth 100000 in
theorem kt_X8_finder : okT cX8_finder 3 8 false t_X8_finder = true := by decide +kernel
set_option maxRecDepth 100000 in
theorem k0_X8_finder : okM0 md_X8_finder = true := by decide +kernel
theorem ok_X8_finder : okMD md_X8_finder = true := okMD_of k0_X8_finder kt_X8_finder
set_option maxRecDepth 100000 in
theorem kt_X8_remember_0 : okT cX8_remember 7 8 false (t_X8_remember.take 20) = true := by decide +kernel
set_option maxRecDepth 100000 in
theorem kt_X8_remember_1 : okT cX8_remember 7 8 false ((t_X8_remember.drop 20).take 20) = true := by decide +kernel
set_option maxRecDepth 100000 in
theorem kt_X8_remember_2 : okT cX8_remember 7 8 false ((t_X8_remember.drop 20).drop 20) = true := by decide +kernel
theorem kt_X8_remember : okT cX8_remember 7 8 false t_X8_remember = true := okT_cut 20 kt_X8_remember_0 (okT_cut 20 kt_X8_remember_1 (kt_X8_remember_2))
set_option maxRecDepth 100000 in
theorem k0_X8_remember : okM0 md_X8_remember = true := by decide +kernel
theorem ok_X8_remember : okMD md_X8_remember = true := okMD_of k0_X8_remember kt_X8_remember
set_option maxRecDepth 100000 in
theorem kt_X8_isUnchanged : okT cX8_isUnchanged 3 8 false t_X8_isUnchanged = true := by decide +kernel
set_option maxRecDepth 100000 in
theorem k0_X8_isUnchanged : okM0 md_X8_isUnchanged = true := by decide +kernel
theorem ok_X8_isUnchanged : okMD md_X8_isUnchanged = true := okMD_of k0_X8_isUnchanged kt_X8_isUnchanged
set_option maxRecDepth 100000 in
theorem kt_X8_nearest : okT cX8_nearest 3 8 false t_X8_nearest = true := by decide +kernel
set_option maxRecDepth 100000 in
theorem k0_X8_nearest : okM0 md_X8_nearest = true := by decide +kernel
theorem ok_X8_nearest : okMD md_X8_nearest = true := okMD_of k0_X8_nearest kt_X8_nearest
set_option maxRecDepth 100000 in
theorem kt_X8_serialOf : okT cX8_serialOf 1 8 false t_X8_serialOf = true := by decide +kernel
set_option maxRecDepth 100000 in
theorem k0_X8_serialOf : okM0 md_X8_serialOf = true := by decide +kernel
theorem ok_X8_serialOf : okMD md_X8_serialOf = true := okMD_of k0_X8_serialOf kt_X8_serialOf
set_option maxRecDepth 100000 in
theorem kt_X8_pack : okT cX8_pack 2 8 false t_X8_pack = true := by decide +kernel
set_option maxRecDepth 100000 in
theorem k0_X8_pack : okM0 md_X8_pack = true := by decide +kernel
theorem ok_X8_pack : okMD md_X8_pack = true := okMD_of k0_X8_pack kt_X8_pack
set_option maxRecDepth 100000 in
theorem kt_X8_valueOfThing : okT cX8_valueOfThing 1 8 false t_X8_valueOfThing = true := by decide +kernel
set_option maxRecDepth 100000 in
theorem k0_X8_valueOfThing : okM0 md_X8_valueOfThing = true := by decide +kernel
theorem ok_X8_valueOfThing : okMD md_X8_valueOfThing = true := okMD_of k0_X8_valueOfThing kt_X8_valueOfThing
set_option maxRecDepth 100000 in
theorem kt_X8_truth : okT cX8_truth 1 8 false t_X8_truth = true := by decide +kernel
set_option maxRecDepth 100000 in
theorem k0_X8_truth : okM0 md_X8_truth = true := by decide +kernel
theorem ok_X8_truth : okMD md_X8_truth = true := okMD_of k0_X8_truth kt_X8_truth
set_option maxRecDepth 100000 in
theorem kt_X8_kindOf : okT cX8_kindOf 2 8 false t_X8_kindOf = true := by decide +kernel
set_option maxRecDepth 100000 in
theorem k0_X8_kindOf : okM0 md_X8_kindOf = true := by decide +kernel
theorem ok_X8_kindOf : okMD md_X8_kindOf = true := okMD_of k0_X8_kindOf kt_X8_kindOf
set_option maxRecDepth 100000 in
theorem kt_X8_numberOf : okT cX8_numberOf 2 8 false t_X8_numberOf = true := by decide +kernel
set_option maxRecDepth 100000 in
theorem k0_X8_numberOf : okM0 md_X8_numberOf = true := by decide +kernel
theorem ok_X8_numberOf : okMD md_X8_numberOf = true := okMD_of k0_X8_numberOf kt_X8_numberOf
set_option maxRecDepth 100000 in
theorem kt_X8_isFalse : okT cX8_isFalse 2 8 false t_X8_isFalse = true := by decide +kernel
set_option maxRecDepth 100000 in
theorem k0_X8_isFalse : okM0 md_X8_isFalse = true := by decide +kernel
theorem ok_X8_isFalse : okMD md_X8_isFalse = true := okMD_of k0_X8_isFalse kt_X8_isFalse
set_option maxRecDepth 100000 in
theorem kt_X8_isAmong : okT cX8_isAmong 3 8 false t_X8_isAmong = true := by decide +kernel
set_option maxRecDepth 100000 in
theorem k0_X8_isAmong : okM0 md_X8_isAmong = true := by decide +kernel
theorem ok_X8_isAmong : okMD md_X8_isAmong = true := okMD_of k0_X8_isAmong kt_X8_isAmong
set_option maxRecDepth 100000 in
theorem kt_X8_told : okT cX8_told 3 8 false t_X8_told = true := by decide +kernel
set_option maxRecDepth 100000 in
theorem k0_X8_told : okM0 md_X8_told = true := by decide +kernel
theorem ok_X8_told : okMD md_X8_told = true := okMD_of k0_X8_told kt_X8_told
set_option maxRecDepth 100000 in
theorem kt_X9_init_0 : okT cX9_init 3 9 true (t_X9_init.take 20) = true := by decide +kernel
set_option maxRecDepth 100000 in
theorem kt_X9_init_1 : okT cX9_init 3 9 true ((t_X9_init.drop 20).take 20) = true := by decide +kernel
set_option maxRecDepth 100000 in
theorem kt_X9_init_2 : okT cX9_init 3 9 true (((t_X9_init.drop 20).drop 20).take 20) = true := by decide +kernel
set_option maxRecDepth 100000 in
theorem kt_X9_init_3 : okT cX9_init 3 9 true ((((t_X9_init.drop 20).drop 20).drop 20).take 20) = true := by decide +kernel
set_option maxRecDepth 100000 in
theorem kt_X9_init_4 : okT cX9_init 3 9 true (((((t_X9_init.drop 20).drop 20).drop 20).drop 20).take 20) = true := by decide +kernel
set_option maxRecDepth 100000 in
theorem kt_X9_init_5 : okT cX9_init 3 9 true ((((((t_X9_init.drop 20).drop 20).drop 20).drop 20).drop 20).take 20) = true := by decide +kernel
set_option maxRecDepth 100000 in
theorem kt_X9_init_6 : okT cX9_init 3 9 true (((((((t_X9_init.drop 20).drop 20).drop 20).drop 20).drop 20).drop 20).take 20) = true := by decide +kernel
set_option maxRecDepth 100000 in
theorem kt_X9_init_7 : okT cX9_init 3 9 true ((((((((t_X9_init.drop 20).drop 20).drop 20).drop 20).drop 20).drop 20).drop 20).take 20) = true := by decide +kernel
set_option maxRecDepth 100000 in
theorem kt_X9_init_8 : okT cX9_init 3 9 true ((((((((t_X9_init.drop 20).drop 20).drop 20).drop 20).drop 20).drop 20).drop 20).drop 20) = true := by decide +kernel
theorem kt_X9_init : okT cX9_init 3 9 true t_X9_init = true := okT_cut 20 kt_X9_init_0 (okT_cut 20 kt_X9_init_1 (okT_cut 20 kt_X9_init_2 (okT_cut 20 kt_X9_init_3 (okT_cut 20 kt_X9_init_4 (okT_cut 20 kt_X9_init_5 (okT_cut 20 kt_X9_init_6 (okT_cut 20 kt_X9_init_7 (kt_X9_init_8))))))))
set_option maxRecDepth 100000 in
theorem k0_X9_init : okM0 md_X9_init = true := by decide +kernel
theorem ok_X9_init : okMD md_X9_init = true := okMD_of k0_X9_init kt_X9_init
set_option maxRecDepth 100000 in
theorem kt_X9_clear_0 : okT cX9_clear 2 9 false (t_X9_clear.take 20) = true := by decide +kernel
set_option maxRecDepth 100000 in
theorem kt_X9_clear_1 : okT cX9_clear 2 9 false ((t_X9_clear.drop 20).take 20) = true := by decide +kernel
set_option maxRecDepth 100000 in
theorem kt_X9_clear_2 : okT cX9_clear 2 9 false (((t_X9_clear.drop 20).drop 20).take 20) = true := by decide +kernel
set_option maxRecDepth 100000 in
theorem kt_X9_clear_3 : okT cX9_clear 2 9 false ((((t_X9_clear.drop 20).drop 20).drop 20).take 20) = true := by decide +kernel
set_option maxRecDepth 100000 in
theorem kt_X9_clear_4 : okT cX9_clear 2 9 false (((((t_X9_clear.drop 20).drop 20).drop 20).drop 20).take 20) = true := by decide +kernel
set_option maxRecDepth 100000 in
theorem kt_X9_clear_5 : okT cX9_clear 2 9 false ((((((t_X9_clear.drop 20).drop 20).drop 20).drop 20).drop 20).take 20) = true := by decide +kernel
set_option maxRecDepth 100000 in
theorem kt_X9_clear_6 : okT cX9_clear 2 9 false ((((((t_X9_clear.drop 20).drop 20).drop 20).drop 20).drop 20).drop 20) = true := by decide +kernel
theorem kt_X9_clear : okT cX9_clear 2 9 false t_X9_clear = true := okT_cut 20 kt_X9_clear_0 (okT_cut 20 kt_X9_clear_1 (okT_cut 20 kt_X9_clear_2 (okT_cut 20 kt_X9_clear_3 (okT_cut 20 kt_X9_clear_4 (okT_cut 20 kt_X9_clear_5 (kt_X9_clear_6))))))
set_option maxRecDepth 100000 in
theorem k0_X9_clear : okM0 md_X9_clear = true := by decide +kernel
theorem ok_X9_clear : okMD md_X9_clear = true := okMD_of k0_X9_clear kt_X9_clear
