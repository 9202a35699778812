set_option maxRecDepth 100000 in
theorem kt_X9_send_0 : okT cX9_send 9 9 false (t_X9_send.take 20) = true := by decide +kernel
set_option maxRecDepth 100000 in
theorem kt_X9_send_1 : okT cX9_send 9 9 false ((t_X9_send.drop 20).take 20) = true := by decide +kernel
set_option maxRecDepth 100000 in
theorem kt_X9_send_2 : okT cX9_send 9 9 false (((t_X9_send.drop 20).drop 20).take 20) = true := by decide +kernel
set_option maxRecDepth 100000 in
theorem kt_X9_send_3 : okT cX9_send 9 9 false ((((t_X9_send.drop 20).drop 20).drop 20).take 20) = true := by decide +kernel
set_option maxRecDepth 100000 in
theorem kt_X9_send_4 : okT cX9_send 9 9 false (((((t_X9_send.drop 20).drop 20).drop 20).drop 20).take 20) = true := by decide +kernel
set_option maxRecDepth 100000 in
theorem kt_X9_send_5 : okT cX9_send 9 9 false ((((((t_X9_send.drop 20).drop 20).drop 20).drop 20).drop 20).take 20) = true := by decide +kernel
set_option maxRecDepth 100000 in
theorem kt_X9_send_6 : okT cX9_send 9 9 false (((((((t_X9_send.drop 20).drop 20).drop 20).drop 20).drop 20).drop 20).take 20) = true := by decide +kernel
set_option maxRecDepth 100000 in
theorem kt_X9_send_7 : okT cX9_send 9 9 false ((((((((t_X9_send.drop 20).drop 20).drop 20).drop 20).drop 20).drop 20).drop 20).take 20) = true := by decide +kernel
set_option maxRecDepth 100000 in
theorem kt_X9_send_8 : okT cX9_send 9 9 false (((((((((t_X9_send.drop 20).drop 20).drop 20).drop 20).drop 20).drop 20).drop 20).drop 20).take 20) = true := by decide +kernel
set_option maxRecDepth 100000 in
theorem kt_X9_send_9 : okT cX9_send 9 9 false ((((((((((t_X9_send.drop 20).drop 20).drop 20).drop 20).drop 20).drop 20).drop 20).drop 20).drop 20).take 20) = true := by decide +kernel
set_option maxRecDepth 100000 in
theorem kt_X9_send_10 : okT cX9_send 9 9 false ((((((((((t_X9_send.drop 20).drop 20).drop 20).drop 20).drop 20).drop 20).drop 20).drop 20).drop 20).drop 20) = true := by decide +kernel
theorem kt_X9_send : okT cX9_send 9 9 false t_X9_send = true := okT_cut 20 kt_X9_send_0 (okT_cut 20 kt_X9_send_1 (okT_cut 20 kt_X9_send_2 (okT_cut 20 kt_X9_send_3 (okT_cut 20 kt_X9_send_4 (okT_cut 20 kt_X9_send_5 (okT_cut 20 kt_X9_send_6 (okT_cut 20 kt_X9_send_7 (okT_cut 20 kt_X9_send_8 (okT_cut 20 kt_X9_send_9 (kt_X9_send_10))))))))))
set_option maxRecDepth 100000 in
theorem k0_X9_send : okM0 md_X9_send = true := by decide +kernel
theorem ok_X9_send : okMD md_X9_send = true := okMD_of k0_X9_send kt_X9_send
set_option maxRecDepth 100000 in
theorem kt_X9_giveBack_0 : okT cX9_giveBack 3 9 false (t_X9_giveBack.take 20) = true := by decide +kernel
set_option maxRecDepth 100000 in
theorem kt_X9_giveBack_1 : okT cX9_giveBack 3 9 false ((t_X9_giveBack.drop 20).take 20) = true := by decide +kernel
set_option maxRecDepth 100000 in
theorem kt_X9_giveBack_2 : okT cX9_giveBack 3 9 false ((t_X9_giveBack.drop 20).drop 20) = true := by decide +kernel
theorem kt_X9_giveBack : okT cX9_giveBack 3 9 false t_X9_giveBack = true := okT_cut 20 kt_X9_giveBack_0 (okT_cut 20 kt_X9_giveBack_1 (kt_X9_giveBack_2))
set_option maxRecDepth 100000 in
theorem k0_X9_giveBack : okM0 md_X9_giveBack = true := by decide +kernel
theorem ok_X9_giveBack : okMD md_X9_giveBack = true := okMD_of k0_X9_giveBack kt_X9_giveBack
set_option maxRecDepth 100000 in
theorem kt_X9_print_0 : okT cX9_print 1 9 false (t_X9_print.take 20) = true := by decide +kernel
set_option maxRecDepth 100000 in
theorem kt_X9_print_1 : okT cX9_print 1 9 false ((t_X9_print.drop 20).take 20) = true := by decide +kernel
set_option maxRecDepth 100000 in
theorem kt_X9_print_2 : okT cX9_print 1 9 false ((t_X9_print.drop 20).drop 20) = true := by decide +kernel
theorem kt_X9_print : okT cX9_print 1 9 false t_X9_print = true := okT_cut 20 kt_X9_print_0 (okT_cut 20 kt_X9_print_1 (kt_X9_print_2))
set_option maxRecDepth 100000 in
theorem k0_X9_print : okM0 md_X9_print = true := by decide +kernel
theorem ok_X9_print : okMD md_X9_print = true := okMD_of k0_X9_print kt_X9_print
set_option maxRecDepth 100000 in
theorem kt_X9_local_0 : okT cX9_local 2 9 false (t_X9_local.take 20) = true := by decide +kernel
set_option maxRecDepth 100000 in
theorem kt_X9_local_1 : okT cX9_local 2 9 false (t_X9_local.drop 20) = true := by decide +kernel
theorem kt_X9_local : okT cX9_local 2 9 false t_X9_local = true := okT_cut 20 kt_X9_local_0 (kt_X9_local_1)
set_option maxRecDepth 100000 in
theorem k0_X9_local : okM0 md_X9_local = true := by decide +kernel
theorem ok_X9_local : okMD md_X9_local = true := okMD_of k0_X9_local kt_X9_local
set_option maxRecDepth 100000 in
theorem kt_X9_store_0 : okT cX9_store 2 9 false (t_X9_store.take 20) = true := by decide +kernel
set_option maxRecDepth 100000 in
theorem kt_X9_store_1 : okT cX9_store 2 9 false ((t_X9_store.drop 20).take 20) = true := by decide +kernel
set_option maxRecDepth 100000 in
theorem kt_X9_store_2 : okT cX9_store 2 9 false ((t_X9_store.drop 20).drop 20) = true := by decide +kernel
theorem kt_X9_store : okT cX9_store 2 9 false t_X9_store = true := okT_cut 20 kt_X9_store_0 (okT_cut 20 kt_X9_store_1 (kt_X9_store_2))
set_option maxRecDepth 100000 in
theorem k0_X9_store : okM0 md_X9_store = true := by decide +kernel
theorem ok_X9_store : okMD md_X9_store = true := okMD_of k0_X9_store kt_X9_store
set_option maxRecDepth 100000 in
theorem kt_X9_keep_0 : okT cX9_keep 2 9 false (t_X9_keep.take 20) = true := by decide +kernel
set_option maxRecDepth 100000 in
theorem kt_X9_keep_1 : okT cX9_keep 2 9 false (t_X9_keep.drop 20) = true := by decide +kernel
theorem kt_X9_keep : okT cX9_keep 2 9 false t_X9_keep = true := okT_cut 20 kt_X9_keep_0 (kt_X9_keep_1)
set_option maxRecDepth 100000 in
theorem k0_X9_keep : okM0 md_X9_keep = true := by decide +kernel
theorem ok_X9_keep : okMD md_X9_keep = true := okMD_of k0_X9_keep kt_X9_keep
set_option maxRecDepth 100000 in
theorem kt_X9_isFalse : okT cX9_isFalse 1 9 false t_X9_isFalse = true := by decide +kernel
set_option maxRecDepth 100000 in
theorem k0_X9_isFalse : okM0 md_X9_isFalse = true := by decide +kernel
theorem ok_X9_isFalse : okMD md_X9_isFalse = true := okMD_of k0_X9_isFalse kt_X9_isFalse
set_option maxRecDepth 100000 in
theorem kt_X9_unless_0 : okT cX9_unless 3 9 false (t_X9_unless.take 20) = true := by decide +kernel
set_option maxRecDepth 100000 in
theorem kt_X9_unless_1 : okT cX9_unless 3 9 false (t_X9_unless.drop 20) = true := by decide +kernel
theorem kt_X9_unless : okT cX9_unless 3 9 false t_X9_unless = true := okT_cut 20 kt_X9_unless_0 (kt_X9_unless_1)
set_option maxRecDepth 100000 in
theorem k0_X9_unless : okM0 md_X9_unless = true := by decide +kernel
theorem ok_X9_unless : okMD md_X9_unless = true := okMD_of k0_X9_unless kt_X9_unless
set_option maxRecDepth 100000 in
theorem kt_X9_swap_0 : okT cX9_swap 3 9 false (t_X9_swap.take 20) = true := by decide +kernel
set_option maxRecDepth 100000 in
theorem kt_X9_swap_1 : okT cX9_swap 3 9 false ((t_X9_swap.drop 20).take 20) = true := by decide +kernel
set_option maxRecDepth 100000 in
theorem kt_X9_swap_2 : okT cX9_swap 3 9 false ((t_X9_swap.drop 20).drop 20) = true := by decide +kernel
theorem kt_X9_swap : okT cX9_swap 3 9 false t_X9_swap = true := okT_cut 20 kt_X9_swap_0 (okT_cut 20 kt_X9_swap_1 (kt_X9_swap_2))
set_option maxRecDepth 100000 in
theorem k0_X9_swap : okM0 md_X9_swap = true := by decide +kernel
theorem ok_X9_swap : okMD md_X9_swap = true := okMD_of k0_X9_swap kt_X9_swap
set_option maxRecDepth 100000 in
theorem kt_X9_answer_0 : okT cX9_answer 3 9 false (t_X9_answer.take 20) = true := by decide +kernel
set_option maxRecDepth 100000 in
theorem kt_X9_answer_1 : okT cX9_answer 3 9 false (t_X9_answer.drop 20) = true := by decide +kernel
theorem kt_X9_answer : okT cX9_answer 3 9 false t_X9_answer = true := okT_cut 20 kt_X9_answer_0 (kt_X9_answer_1)
set_option maxRecDepth 100000 in
theorem k0_X9_answer : okM0 md_X9_answer = true := by decide +kernel
theorem ok_X9_answer : okMD md_X9_answer = true := okMD_of k0_X9_answer kt_X9_answer
set_option maxRecDepth 100000 in
theorem kt_X9_simple_0 : okT cX9_simple 3 9 false (t_X9_simple.take 20) = true := by decide +kernel
set_option maxRecDepth 100000 in
theorem kt_X9_simple_1 : okT cX9_simple 3 9 false ((t_X9_simple.drop 20).take 20) = true := by decide +kernel
set_option maxRecDepth 100000 in
theorem kt_X9_simple_2 : okT cX9_simple 3 9 false (((t_X9_simple.drop 20).drop 20).take 20) = true := by decide +kernel
set_option maxRecDepth 100000 in
theorem kt_X9_simple_3 : okT cX9_simple 3 9 false ((((t_X9_simple.drop 20).drop 20).drop 20).take 20) = true := by decide +kernel
set_option maxRecDepth 100000 in
theorem kt_X9_simple_4 : okT cX9_simple 3 9 false ((((t_X9_simple.drop 20).drop 20).drop 20).drop 20) = true := by decide +kernel
theorem kt_X9_simple : okT cX9_simple 3 9 false t_X9_simple = true := okT_cut 20 kt_X9_simple_0 (okT_cut 20 kt_X9_simple_1 (okT_cut 20 kt_X9_simple_2 (okT_cut 20 kt_X9_simple_3 (kt_X9_simple_4))))
set_option maxRecDepth 100000 in
theorem k0_X9_simple : okM0 md_X9_simple = true := by decide +kernel
theorem ok_X9_simple : okMD md_X9_simple = true := okMD_of k0_X9_simple kt_X9_simple
