theorem dJx00060_init_a7421_0 : decode cJx00060_init_a7421 0 = .ok (.aload_n 0, 1) := by decide +kernel
theorem dJx00060_init_a7421_1 : decode cJx00060_init_a7421 1 = .ok (.aload_n 1, 1) := by decide +kernel
theorem dJx00060_init_a7421_2 : decode cJx00060_init_a7421 2 = .ok (.invokespecial 7, 3) := by decide +kernel
theorem dJx00060_init_a7421_5 : decode cJx00060_init_a7421 5 = .ok (.return_, 1) := by decide +kernel
theorem dJ9_max_7cf53_0 : decode cJ9_max_7cf53 0 = .ok (.iload_n 0, 1) := by decide +kernel
theorem dJ9_max_7cf53_1 : decode cJ9_max_7cf53 1 = .ok (.iload_n 1, 1) := by decide +kernel
theorem dJ9_max_7cf53_2 : decode cJ9_max_7cf53 2 = .ok (.if_icmp .lt 7, 3) := by decide +kernel
theorem dJ9_max_7cf53_5 : decode cJ9_max_7cf53 5 = .ok (.iload_n 0, 1) := by decide +kernel
theorem dJ9_max_7cf53_6 : decode cJ9_max_7cf53 6 = .ok (.goto 4, 3) := by decide +kernel
theorem dJ9_max_7cf53_9 : decode cJ9_max_7cf53 9 = .ok (.iload_n 1, 1) := by decide +kernel
theorem dJ9_max_7cf53_10 : decode cJ9_max_7cf53 10 = .ok (.ireturn, 1) := by decide +kernel
theorem dJ9_min_7cf53_0 : decode cJ9_min_7cf53 0 = .ok (.iload_n 0, 1) := by decide +kernel
theorem dJ9_min_7cf53_1 : decode cJ9_min_7cf53 1 = .ok (.iload_n 1, 1) := by decide +kernel
theorem dJ9_min_7cf53_2 : decode cJ9_min_7cf53 2 = .ok (.if_icmp .gt 7, 3) := by decide +kernel
theorem dJ9_min_7cf53_5 : decode cJ9_min_7cf53 5 = .ok (.iload_n 0, 1) := by decide +kernel
theorem dJ9_min_7cf53_6 : decode cJ9_min_7cf53 6 = .ok (.goto 4, 3) := by decide +kernel
theorem dJ9_min_7cf53_9 : decode cJ9_min_7cf53 9 = .ok (.iload_n 1, 1) := by decide +kernel
theorem dJ9_min_7cf53_10 : decode cJ9_min_7cf53 10 = .ok (.ireturn, 1) := by decide +kernel
set_option maxRecDepth 20000 in
theorem ggL_arrive_X1_arrive : GoodIn wsL_arrive wsX1_arrive := goodIn_ca (goodIn_ca (goodIn_ca (goodIn_r _ [7, 8, 9, 10, 11, 12, 13, 14, 15, 16, 17, 18, 6, 19, 20, 21, 22, 23, 24, 25, 26, 27, 28, 29, 30, 31, 32, 33, 34, 35] rfl (by decide +kernel)) (goodIn_sub (fun _ h => List.mem_cons_of_mem _ (List.mem_append_left _ (List.mem_append_right _ h))) (by decide +kernel))) (goodIn_sub (fun _ h => List.mem_cons_of_mem _ (List.mem_append_right _ h)) (by decide +kernel))) (goodIn_sub (fun _ h => List.mem_cons_of_mem _ (List.mem_append_left _ (List.mem_append_left _ (List.mem_append_right _ h)))) (by decide +kernel))
set_option maxRecDepth 20000 in
theorem gL_arrive_X1_arrive : GoodIn wsL_arrive (wsV RL 7 RX1 yX1_arrive wsX1_arrive) := goodIn_app (goodIn_of _ (by decide +kernel)) ggL_arrive_X1_arrive
theorem dL_arrive_0 : decode cL_arrive 0 = .ok (.aload 5, 2) := by decide +kernel
theorem dL_arrive_2 : decode cL_arrive 2 = .ok (.iconst 0, 1) := by decide +kernel
theorem dL_arrive_3 : decode cL_arrive 3 = .ok (.aload_n 0, 1) := by decide +kernel
theorem dL_arrive_4 : decode cL_arrive 4 = .ok (.iload_n 1, 1) := by decide +kernel
theorem dL_arrive_5 : decode cL_arrive 5 = .ok (.iload_n 2, 1) := by decide +kernel
theorem dL_arrive_6 : decode cL_arrive 6 = .ok (.iload_n 3, 1) := by decide +kernel
theorem dL_arrive_7 : decode cL_arrive 7 = .ok (.iload 4, 2) := by decide +kernel
theorem dL_arrive_9 : decode cL_arrive 9 = .ok (.invokevirtual 7, 3) := by decide +kernel
theorem dL_arrive_12 : decode cL_arrive 12 = .ok (.i2l, 1) := by decide +kernel
theorem dL_arrive_13 : decode cL_arrive 13 = .ok (.lastore, 1) := by decide +kernel
theorem dL_arrive_14 : decode cL_arrive 14 = .ok (.goto 11, 3) := by decide +kernel
theorem dL_arrive_17 : decode cL_arrive 17 = .ok (.astore 6, 2) := by decide +kernel
theorem dL_arrive_19 : decode cL_arrive 19 = .ok (.iconst 1, 1) := by decide +kernel
theorem dL_arrive_20 : decode cL_arrive 20 = .ok (.ireturn, 1) := by decide +kernel
theorem dL_arrive_21 : decode cL_arrive 21 = .ok (.astore 6, 2) := by decide +kernel
theorem dL_arrive_23 : decode cL_arrive 23 = .ok (.iconst 2, 1) := by decide +kernel
theorem dL_arrive_24 : decode cL_arrive 24 = .ok (.ireturn, 1) := by decide +kernel
theorem dL_arrive_25 : decode cL_arrive 25 = .ok (.iconst 0, 1) := by decide +kernel
theorem dL_arrive_26 : decode cL_arrive 26 = .ok (.ireturn, 1) := by decide +kernel
set_option maxRecDepth 20000 in
theorem ggL_addLine_X1_addLine : GoodIn wsL_addLine wsX1_addLine := goodIn_ca (goodIn_ca (goodIn_ca (goodIn_ca (goodIn_r _ [8, 9, 10, 11, 12, 13, 14, 15, 16, 17, 18, 7, 19, 20, 21, 22, 23, 24, 25, 26, 27, 28, 29, 30, 31, 32, 33, 34, 35, 36, 37, 38, 39, 40, 41, 42, 43, 44, 45, 46, 47, 48, 49, 50, 51, 52, 53, 54, 55, 56, 57, 58, 59, 60, 61, 62, 63, 64, 65, 66, 67, 68, 69, 70, 71, 72, 73, 74, 75, 76, 77, 78, 79, 80, 81, 82, 83, 84, 85, 86, 87, 88, 89, 90, 91, 92, 93, 94, 95, 96, 97, 98] rfl (by decide +kernel)) (goodIn_sub (fun _ h => List.mem_cons_of_mem _ (List.mem_append_left _ (List.mem_append_left _ (List.mem_append_right _ h)))) (by decide +kernel))) (goodIn_sub (fun _ h => List.mem_cons_of_mem _ (List.mem_append_left _ (List.mem_append_left _ (List.mem_append_left _ (List.mem_append_right _ h))))) (by decide +kernel))) (goodIn_sub (fun _ h => List.mem_cons_of_mem _ (List.mem_append_left _ (List.mem_append_right _ h))) (by decide +kernel))) (goodIn_sub (fun _ h => List.mem_cons_of_mem _ (List.mem_append_right _ h)) (by decide +kernel))
set_option maxRecDepth 20000 in
theorem gL_addLine_X1_addLine : GoodIn wsL_addLine (wsV RL 17 RX1 yX1_addLine wsX1_addLine) := goodIn_app (goodIn_of _ (by decide +kernel)) ggL_addLine_X1_addLine
theorem dL_addLine_0 : decode cL_addLine 0 = .ok (.aload 4, 2) := by decide +kernel
theorem dL_addLine_2 : decode cL_addLine 2 = .ok (.iconst 0, 1) := by decide +kernel
theorem dL_addLine_3 : decode cL_addLine 3 = .ok (.aload_n 0, 1) := by decide +kernel
theorem dL_addLine_4 : decode cL_addLine 4 = .ok (.iload_n 1, 1) := by decide +kernel
theorem dL_addLine_5 : decode cL_addLine 5 = .ok (.iload_n 2, 1) := by decide +kernel
theorem dL_addLine_6 : decode cL_addLine 6 = .ok (.iload_n 3, 1) := by decide +kernel
theorem dL_addLine_7 : decode cL_addLine 7 = .ok (.invokevirtual 17, 3) := by decide +kernel
theorem dL_addLine_10 : decode cL_addLine 10 = .ok (.i2l, 1) := by decide +kernel
theorem dL_addLine_11 : decode cL_addLine 11 = .ok (.lastore, 1) := by decide +kernel
theorem dL_addLine_12 : decode cL_addLine 12 = .ok (.goto 15, 3) := by decide +kernel
theorem dL_addLine_15 : decode cL_addLine 15 = .ok (.astore 5, 2) := by decide +kernel
theorem dL_addLine_17 : decode cL_addLine 17 = .ok (.iconst 1, 1) := by decide +kernel
theorem dL_addLine_18 : decode cL_addLine 18 = .ok (.ireturn, 1) := by decide +kernel
theorem dL_addLine_19 : decode cL_addLine 19 = .ok (.astore 5, 2) := by decide +kernel
theorem dL_addLine_21 : decode cL_addLine 21 = .ok (.iconst 2, 1) := by decide +kernel
theorem dL_addLine_22 : decode cL_addLine 22 = .ok (.ireturn, 1) := by decide +kernel
theorem dL_addLine_23 : decode cL_addLine 23 = .ok (.astore 5, 2) := by decide +kernel
theorem dL_addLine_25 : decode cL_addLine 25 = .ok (.iconst 3, 1) := by decide +kernel
theorem dL_addLine_26 : decode cL_addLine 26 = .ok (.ireturn, 1) := by decide +kernel
theorem dL_addLine_27 : decode cL_addLine 27 = .ok (.iconst 0, 1) := by decide +kernel
theorem dL_addLine_28 : decode cL_addLine 28 = .ok (.ireturn, 1) := by decide +kernel
set_option maxRecDepth 20000 in
theorem ggL_removeLine_X1_removeLine : GoodIn wsL_removeLine wsX1_removeLine := goodIn_ca (goodIn_ca (goodIn_ca (goodIn_r _ [7, 8, 9, 10, 11, 12, 13, 6, 14, 15, 16, 17, 18, 19, 20, 21, 22, 23, 24, 25, 26, 27, 28, 29, 30, 31, 32, 33, 34, 35, 36, 37, 38, 39, 40, 41, 42, 43, 44, 45, 46, 47, 48, 49, 50, 51, 52, 53, 54, 55, 56, 57, 58, 59, 60, 61, 62, 63, 64, 65, 66, 67, 68, 69, 70, 71, 72, 73, 74, 75, 76, 77, 78, 79, 80, 81, 82, 83, 84, 85, 86, 87, 88, 89, 90, 91, 92, 93, 94, 95] rfl (by decide +kernel)) (goodIn_sub (fun _ h => List.mem_cons_of_mem _ (List.mem_append_left _ (List.mem_append_left _ (List.mem_append_right _ h)))) (by decide +kernel))) (goodIn_sub (fun _ h => List.mem_cons_of_mem _ (List.mem_append_left _ (List.mem_append_right _ h))) (by decide +kernel))) (goodIn_sub (fun _ h => List.mem_cons_of_mem _ (List.mem_append_right _ h)) (by decide +kernel))
set_option maxRecDepth 20000 in
theorem gL_removeLine_X1_removeLine : GoodIn wsL_removeLine (wsV RL 23 RX1 yX1_removeLine wsX1_removeLine) := goodIn_app (goodIn_of _ (by decide +kernel)) ggL_removeLine_X1_removeLine
theorem dL_removeLine_0 : decode cL_removeLine 0 = .ok (.aload_n 2, 1) := by decide +kernel
theorem dL_removeLine_1 : decode cL_removeLine 1 = .ok (.iconst 0, 1) := by decide +kernel
theorem dL_removeLine_2 : decode cL_removeLine 2 = .ok (.aload_n 0, 1) := by decide +kernel
theorem dL_removeLine_3 : decode cL_removeLine 3 = .ok (.iload_n 1, 1) := by decide +kernel
theorem dL_removeLine_4 : decode cL_removeLine 4 = .ok (.invokevirtual 23, 3) := by decide +kernel
theorem dL_removeLine_7 : decode cL_removeLine 7 = .ok (.i2l, 1) := by decide +kernel
theorem dL_removeLine_8 : decode cL_removeLine 8 = .ok (.lastore, 1) := by decide +kernel
theorem dL_removeLine_9 : decode cL_removeLine 9 = .ok (.goto 9, 3) := by decide +kernel
theorem dL_removeLine_12 : decode cL_removeLine 12 = .ok (.astore_n 3, 1) := by decide +kernel
theorem dL_removeLine_13 : decode cL_removeLine 13 = .ok (.iconst 1, 1) := by decide +kernel
theorem dL_removeLine_14 : decode cL_removeLine 14 = .ok (.ireturn, 1) := by decide +kernel
theorem dL_removeLine_15 : decode cL_removeLine 15 = .ok (.astore_n 3, 1) := by decide +kernel
theorem dL_removeLine_16 : decode cL_removeLine 16 = .ok (.iconst 2, 1) := by decide +kernel
theorem dL_removeLine_17 : decode cL_removeLine 17 = .ok (.ireturn, 1) := by decide +kernel
theorem dL_removeLine_18 : decode cL_removeLine 18 = .ok (.iconst 0, 1) := by decide +kernel
theorem dL_removeLine_19 : decode cL_removeLine 19 = .ok (.ireturn, 1) := by decide +kernel
set_option maxRecDepth 20000 in
theorem ggL_lines_X1_lines : GoodIn wsL_lines wsX1_lines := goodIn_ca (goodIn_ca (goodIn_r _ [6, 7, 8, 9, 10, 5, 11, 12, 13, 14, 15, 16, 17, 18, 19, 20, 21, 22, 23, 24, 25, 26, 27, 28, 29] rfl (by decide +kernel)) (goodIn_sub (fun _ h => List.mem_cons_of_mem _ (List.mem_append_left _ (List.mem_append_right _ h))) (by decide +kernel))) (goodIn_sub (fun _ h => List.mem_cons_of_mem _ (List.mem_append_right _ h)) (by decide +kernel))
set_option maxRecDepth 20000 in
theorem gL_lines_X1_lines : GoodIn wsL_lines (wsV RL 27 RX1 yX1_lines wsX1_lines) := goodIn_app (goodIn_of _ (by decide +kernel)) ggL_lines_X1_lines
theorem dL_lines_0 : decode cL_lines 0 = .ok (.aload_n 2, 1) := by decide +kernel
theorem dL_lines_1 : decode cL_lines 1 = .ok (.iconst 0, 1) := by decide +kernel
theorem dL_lines_2 : decode cL_lines 2 = .ok (.aload_n 0, 1) := by decide +kernel
theorem dL_lines_3 : decode cL_lines 3 = .ok (.iload_n 1, 1) := by decide +kernel
theorem dL_lines_4 : decode cL_lines 4 = .ok (.invokevirtual 27, 3) := by decide +kernel
theorem dL_lines_7 : decode cL_lines 7 = .ok (.i2l, 1) := by decide +kernel
theorem dL_lines_8 : decode cL_lines 8 = .ok (.lastore, 1) := by decide +kernel
theorem dL_lines_9 : decode cL_lines 9 = .ok (.goto 6, 3) := by decide +kernel
theorem dL_lines_12 : decode cL_lines 12 = .ok (.astore_n 3, 1) := by decide +kernel
theorem dL_lines_13 : decode cL_lines 13 = .ok (.iconst 1, 1) := by decide +kernel
theorem dL_lines_14 : decode cL_lines 14 = .ok (.ireturn, 1) := by decide +kernel
theorem dL_lines_15 : decode cL_lines 15 = .ok (.iconst 0, 1) := by decide +kernel
theorem dL_lines_16 : decode cL_lines 16 = .ok (.ireturn, 1) := by decide +kernel
set_option maxRecDepth 20000 in
theorem ggL_word_X1_word : GoodIn wsL_word wsX1_word := goodIn_ca (goodIn_ca (goodIn_r _ [6, 7, 8, 9, 10, 5, 11, 12, 13, 14, 15, 16, 17, 18, 19, 20, 21, 22, 23, 24, 25, 26, 27, 28, 29, 30, 31, 32, 33, 34, 35, 36, 37] rfl (by decide +kernel)) (goodIn_sub (fun _ h => List.mem_cons_of_mem _ (List.mem_append_left _ (List.mem_append_right _ h))) (by decide +kernel))) (goodIn_sub (fun _ h => List.mem_cons_of_mem _ (List.mem_append_right _ h)) (by decide +kernel))
set_option maxRecDepth 20000 in
theorem gL_word_X1_word : GoodIn wsL_word (wsV RL 30 RX1 yX1_word wsX1_word) := goodIn_app (goodIn_of _ (by decide +kernel)) ggL_word_X1_word
theorem dL_word_0 : decode cL_word 0 = .ok (.aload_n 3, 1) := by decide +kernel
theorem dL_word_1 : decode cL_word 1 = .ok (.iconst 0, 1) := by decide +kernel
theorem dL_word_2 : decode cL_word 2 = .ok (.aload_n 0, 1) := by decide +kernel
theorem dL_word_3 : decode cL_word 3 = .ok (.iload_n 1, 1) := by decide +kernel
theorem dL_word_4 : decode cL_word 4 = .ok (.iload_n 2, 1) := by decide +kernel
theorem dL_word_5 : decode cL_word 5 = .ok (.invokevirtual 30, 3) := by decide +kernel
theorem dL_word_8 : decode cL_word 8 = .ok (.i2l, 1) := by decide +kernel
theorem dL_word_9 : decode cL_word 9 = .ok (.lastore, 1) := by decide +kernel
theorem dL_word_10 : decode cL_word 10 = .ok (.goto 7, 3) := by decide +kernel
theorem dL_word_13 : decode cL_word 13 = .ok (.astore 4, 2) := by decide +kernel
theorem dL_word_15 : decode cL_word 15 = .ok (.iconst 1, 1) := by decide +kernel
theorem dL_word_16 : decode cL_word 16 = .ok (.ireturn, 1) := by decide +kernel
theorem dL_word_17 : decode cL_word 17 = .ok (.iconst 0, 1) := by decide +kernel
theorem dL_word_18 : decode cL_word 18 = .ok (.ireturn, 1) := by decide +kernel
set_option maxRecDepth 20000 in
theorem ggL_parent_X1_parent : GoodIn wsL_parent wsX1_parent := goodIn_ca (goodIn_ca (goodIn_ca (goodIn_r _ [7, 8, 9, 10, 11, 12, 6, 13, 14, 15, 16, 17, 18, 19, 20, 21, 22, 23, 24, 25, 26, 27, 28, 29, 30, 31, 32, 33, 34, 35, 36, 37, 38, 39, 40, 41] rfl (by decide +kernel)) (goodIn_sub (fun _ h => List.mem_cons_of_mem _ (List.mem_append_left _ (List.mem_append_right _ h))) (by decide +kernel))) (goodIn_sub (fun _ h => List.mem_cons_of_mem _ (List.mem_append_right _ h)) (by decide +kernel))) (goodIn_sub (fun _ h => List.mem_cons_of_mem _ (List.mem_append_left _ (List.mem_append_left _ (List.mem_append_right _ h)))) (by decide +kernel))
set_option maxRecDepth 20000 in
theorem gL_parent_X1_parent : GoodIn wsL_parent (wsV RL 34 RX1 yX1_parent wsX1_parent) := goodIn_app (goodIn_of _ (by decide +kernel)) ggL_parent_X1_parent
theorem dL_parent_0 : decode cL_parent 0 = .ok (.aload_n 2, 1) := by decide +kernel
theorem dL_parent_1 : decode cL_parent 1 = .ok (.iconst 0, 1) := by decide +kernel
theorem dL_parent_2 : decode cL_parent 2 = .ok (.aload_n 0, 1) := by decide +kernel
theorem dL_parent_3 : decode cL_parent 3 = .ok (.iload_n 1, 1) := by decide +kernel
theorem dL_parent_4 : decode cL_parent 4 = .ok (.invokevirtual 34, 3) := by decide +kernel
theorem dL_parent_7 : decode cL_parent 7 = .ok (.i2l, 1) := by decide +kernel
theorem dL_parent_8 : decode cL_parent 8 = .ok (.lastore, 1) := by decide +kernel
theorem dL_parent_9 : decode cL_parent 9 = .ok (.goto 9, 3) := by decide +kernel
theorem dL_parent_12 : decode cL_parent 12 = .ok (.astore_n 3, 1) := by decide +kernel
theorem dL_parent_13 : decode cL_parent 13 = .ok (.iconst 1, 1) := by decide +kernel
theorem dL_parent_14 : decode cL_parent 14 = .ok (.ireturn, 1) := by decide +kernel
theorem dL_parent_15 : decode cL_parent 15 = .ok (.astore_n 3, 1) := by decide +kernel
theorem dL_parent_16 : decode cL_parent 16 = .ok (.iconst 2, 1) := by decide +kernel
theorem dL_parent_17 : decode cL_parent 17 = .ok (.ireturn, 1) := by decide +kernel
theorem dL_parent_18 : decode cL_parent 18 = .ok (.iconst 0, 1) := by decide +kernel
theorem dL_parent_19 : decode cL_parent 19 = .ok (.ireturn, 1) := by decide +kernel
set_option maxRecDepth 20000 in
theorem ggL_aligned_X1_aligned : GoodIn wsL_aligned wsX1_aligned := goodIn_ca (goodIn_ca (goodIn_r _ [6, 7, 8, 9, 10, 5, 11, 12, 13, 14, 15, 16, 17, 18, 19, 20, 21, 22, 23, 24, 25, 26, 27, 28, 29, 30, 31, 32, 33, 34, 35, 36, 37, 38, 39, 40, 41, 42, 43, 44, 45, 46, 47, 48, 49, 50, 51, 52, 53, 54, 55, 56, 57, 58, 59, 60, 61, 62, 63, 64, 65, 66, 67, 68, 69, 70, 71, 72, 73, 74, 75, 76, 77, 78, 79, 80, 81, 82, 83] rfl (by decide +kernel)) (goodIn_sub (fun _ h => List.mem_cons_of_mem _ (List.mem_append_right _ h)) (by decide +kernel))) (goodIn_sub (fun _ h => List.mem_cons_of_mem _ (List.mem_append_left _ (List.mem_append_right _ h))) (by decide +kernel))
set_option maxRecDepth 20000 in
theorem gL_aligned_X1_aligned : GoodIn wsL_aligned (wsV RL 39 RX1 yX1_aligned wsX1_aligned) := goodIn_app (goodIn_of _ (by decide +kernel)) ggL_aligned_X1_aligned
theorem dL_aligned_0 : decode cL_aligned 0 = .ok (.aload_n 2, 1) := by decide +kernel
theorem dL_aligned_1 : decode cL_aligned 1 = .ok (.iconst 0, 1) := by decide +kernel
theorem dL_aligned_2 : decode cL_aligned 2 = .ok (.aload_n 0, 1) := by decide +kernel
theorem dL_aligned_3 : decode cL_aligned 3 = .ok (.iload_n 1, 1) := by decide +kernel
theorem dL_aligned_4 : decode cL_aligned 4 = .ok (.invokevirtual 39, 3) := by decide +kernel
theorem dL_aligned_7 : decode cL_aligned 7 = .ok (.i2l, 1) := by decide +kernel
theorem dL_aligned_8 : decode cL_aligned 8 = .ok (.lastore, 1) := by decide +kernel
theorem dL_aligned_9 : decode cL_aligned 9 = .ok (.goto 6, 3) := by decide +kernel
theorem dL_aligned_12 : decode cL_aligned 12 = .ok (.astore_n 3, 1) := by decide +kernel
theorem dL_aligned_13 : decode cL_aligned 13 = .ok (.iconst 1, 1) := by decide +kernel
theorem dL_aligned_14 : decode cL_aligned 14 = .ok (.ireturn, 1) := by decide +kernel
theorem dL_aligned_15 : decode cL_aligned 15 = .ok (.iconst 0, 1) := by decide +kernel
theorem dL_aligned_16 : decode cL_aligned 16 = .ok (.ireturn, 1) := by decide +kernel
set_option maxRecDepth 20000 in
theorem ggL_alignedByTrying_X1_alignedByTrying : GoodIn wsL_alignedByTrying wsX1_alignedByTrying := goodIn_ca (goodIn_ca (goodIn_r _ [6, 7, 8, 9, 10, 5, 11, 12, 13, 14, 15, 16, 17, 18, 19, 20, 21, 22, 23, 24, 25, 26, 27, 28, 29, 30, 31, 32, 33, 34, 35, 36, 37, 38, 39, 40, 41, 42, 43, 44, 45, 46, 47, 48, 49, 50, 51, 52, 53, 54, 55, 56, 57, 58, 59, 60, 61, 62, 63, 64, 65, 66, 67, 68, 69, 70, 71, 72, 73, 74, 75, 76, 77, 78, 79, 80, 81] rfl (by decide +kernel)) (goodIn_sub (fun _ h => List.mem_cons_of_mem _ (List.mem_append_right _ h)) (by decide +kernel))) (goodIn_sub (fun _ h => List.mem_cons_of_mem _ (List.mem_append_left _ (List.mem_append_right _ h))) (by decide +kernel))
set_option maxRecDepth 20000 in
theorem gL_alignedByTrying_X1_alignedByTrying : GoodIn wsL_alignedByTrying (wsV RL 42 RX1 yX1_alignedByTrying wsX1_alignedByTrying) := goodIn_app (goodIn_of _ (by decide +kernel)) ggL_alignedByTrying_X1_alignedByTrying
theorem dL_alignedByTrying_0 : decode cL_alignedByTrying 0 = .ok (.aload_n 2, 1) := by decide +kernel
theorem dL_alignedByTrying_1 : decode cL_alignedByTrying 1 = .ok (.iconst 0, 1) := by decide +kernel
theorem dL_alignedByTrying_2 : decode cL_alignedByTrying 2 = .ok (.aload_n 0, 1) := by decide +kernel
theorem dL_alignedByTrying_3 : decode cL_alignedByTrying 3 = .ok (.iload_n 1, 1) := by decide +kernel
theorem dL_alignedByTrying_4 : decode cL_alignedByTrying 4 = .ok (.invokevirtual 42, 3) := by decide +kernel
theorem dL_alignedByTrying_7 : decode cL_alignedByTrying 7 = .ok (.i2l, 1) := by decide +kernel
theorem dL_alignedByTrying_8 : decode cL_alignedByTrying 8 = .ok (.lastore, 1) := by decide +kernel
theorem dL_alignedByTrying_9 : decode cL_alignedByTrying 9 = .ok (.goto 6, 3) := by decide +kernel
theorem dL_alignedByTrying_12 : decode cL_alignedByTrying 12 = .ok (.astore_n 3, 1) := by decide +kernel
theorem dL_alignedByTrying_13 : decode cL_alignedByTrying 13 = .ok (.iconst 1, 1) := by decide +kernel
theorem dL_alignedByTrying_14 : decode cL_alignedByTrying 14 = .ok (.ireturn, 1) := by decide +kernel
theorem dL_alignedByTrying_15 : decode cL_alignedByTrying 15 = .ok (.iconst 0, 1) := by decide +kernel
theorem dL_alignedByTrying_16 : decode cL_alignedByTrying 16 = .ok (.ireturn, 1) := by decide +kernel
set_option maxRecDepth 20000 in
theorem ggL_partner_X1_partner : GoodIn wsL_partner wsX1_partner := goodIn_ca (goodIn_ca (goodIn_ca (goodIn_r _ [7, 8, 9, 10, 11, 12, 13, 6, 14, 15, 16, 17, 18, 19, 20, 21, 22, 23, 24, 25, 26, 27, 28, 29, 30, 31, 32, 33, 34, 35, 36, 37, 38, 39, 40, 41, 42, 43, 44, 45, 46, 47, 48, 49, 50, 51, 52, 53, 54] rfl (by decide +kernel)) (goodIn_sub (fun _ h => List.mem_cons_of_mem _ (List.mem_append_left _ (List.mem_append_right _ h))) (by decide +kernel))) (goodIn_sub (fun _ h => List.mem_cons_of_mem _ (List.mem_append_left _ (List.mem_append_left _ (List.mem_append_right _ h)))) (by decide +kernel))) (goodIn_sub (fun _ h => List.mem_cons_of_mem _ (List.mem_append_right _ h)) (by decide +kernel))
set_option maxRecDepth 20000 in
theorem gL_partner_X1_partner : GoodIn wsL_partner (wsV RL 45 RX1 yX1_partner wsX1_partner) := goodIn_app (goodIn_of _ (by decide +kernel)) ggL_partner_X1_partner
theorem dL_partner_0 : decode cL_partner 0 = .ok (.aload_n 3, 1) := by decide +kernel
theorem dL_partner_1 : decode cL_partner 1 = .ok (.iconst 0, 1) := by decide +kernel
theorem dL_partner_2 : decode cL_partner 2 = .ok (.aload_n 0, 1) := by decide +kernel
theorem dL_partner_3 : decode cL_partner 3 = .ok (.iload_n 1, 1) := by decide +kernel
theorem dL_partner_4 : decode cL_partner 4 = .ok (.iload_n 2, 1) := by decide +kernel
theorem dL_partner_5 : decode cL_partner 5 = .ok (.invokevirtual 45, 3) := by decide +kernel
theorem dL_partner_8 : decode cL_partner 8 = .ok (.i2l, 1) := by decide +kernel
theorem dL_partner_9 : decode cL_partner 9 = .ok (.lastore, 1) := by decide +kernel
theorem dL_partner_10 : decode cL_partner 10 = .ok (.goto 11, 3) := by decide +kernel
theorem dL_partner_13 : decode cL_partner 13 = .ok (.astore 4, 2) := by decide +kernel
theorem dL_partner_15 : decode cL_partner 15 = .ok (.iconst 1, 1) := by decide +kernel
theorem dL_partner_16 : decode cL_partner 16 = .ok (.ireturn, 1) := by decide +kernel
theorem dL_partner_17 : decode cL_partner 17 = .ok (.astore 4, 2) := by decide +kernel
theorem dL_partner_19 : decode cL_partner 19 = .ok (.iconst 2, 1) := by decide +kernel
theorem dL_partner_20 : decode cL_partner 20 = .ok (.ireturn, 1) := by decide +kernel
theorem dL_partner_21 : decode cL_partner 21 = .ok (.iconst 0, 1) := by decide +kernel
theorem dL_partner_22 : decode cL_partner 22 = .ok (.ireturn, 1) := by decide +kernel
set_option maxRecDepth 20000 in
theorem ggL_originMail_X1_originMail : GoodIn wsL_originMail wsX1_originMail := goodIn_ca (goodIn_ca (goodIn_r _ [6, 7, 8, 9, 5, 10, 11, 12, 13, 14, 15, 16, 17, 18, 19, 20, 21, 22, 23, 24, 25, 26, 27, 28, 29, 30, 31, 32, 33, 34, 35, 36, 37, 38, 39, 40, 41, 42, 43, 44, 45, 46, 47, 48, 49, 50, 51, 52, 53, 54, 55] rfl (by decide +kernel)) (goodIn_sub (fun _ h => List.mem_cons_of_mem _ (List.mem_append_left _ (List.mem_append_right _ h))) (by decide +kernel))) (goodIn_sub (fun _ h => List.mem_cons_of_mem _ (List.mem_append_right _ h)) (by decide +kernel))
set_option maxRecDepth 20000 in
theorem gL_originMail_X1_originMail : GoodIn wsL_originMail (wsV RL 48 RX1 yX1_originMail wsX1_originMail) := goodIn_app (goodIn_of _ (by decide +kernel)) ggL_originMail_X1_originMail
theorem dL_originMail_0 : decode cL_originMail 0 = .ok (.aload_n 3, 1) := by decide +kernel
theorem dL_originMail_1 : decode cL_originMail 1 = .ok (.iconst 0, 1) := by decide +kernel
theorem dL_originMail_2 : decode cL_originMail 2 = .ok (.aload_n 0, 1) := by decide +kernel
theorem dL_originMail_3 : decode cL_originMail 3 = .ok (.iload_n 1, 1) := by decide +kernel
theorem dL_originMail_4 : decode cL_originMail 4 = .ok (.iload_n 2, 1) := by decide +kernel
theorem dL_originMail_5 : decode cL_originMail 5 = .ok (.invokevirtual 48, 3) := by decide +kernel
theorem dL_originMail_8 : decode cL_originMail 8 = .ok (.i2l, 1) := by decide +kernel
theorem dL_originMail_9 : decode cL_originMail 9 = .ok (.lastore, 1) := by decide +kernel
theorem dL_originMail_10 : decode cL_originMail 10 = .ok (.goto 7, 3) := by decide +kernel
theorem dL_originMail_13 : decode cL_originMail 13 = .ok (.astore 4, 2) := by decide +kernel
theorem dL_originMail_15 : decode cL_originMail 15 = .ok (.iconst 1, 1) := by decide +kernel
theorem dL_originMail_16 : decode cL_originMail 16 = .ok (.ireturn, 1) := by decide +kernel
theorem dL_originMail_17 : decode cL_originMail 17 = .ok (.iconst 0, 1) := by decide +kernel
theorem dL_originMail_18 : decode cL_originMail 18 = .ok (.ireturn, 1) := by decide +kernel
set_option maxRecDepth 20000 in
theorem ggL_originLine_X1_originLine : GoodIn wsL_originLine wsX1_originLine := goodIn_ca (goodIn_ca (goodIn_r _ [6, 7, 8, 9, 5, 10, 11, 12, 13, 14, 15, 16, 17, 18, 19, 20, 21, 22, 23, 24, 25, 26, 27, 28, 29, 30, 31, 32, 33, 34, 35, 36, 37, 38, 39, 40, 41, 42, 43, 44, 45, 46, 47, 48, 49, 50, 51, 52, 53, 54, 55] rfl (by decide +kernel)) (goodIn_sub (fun _ h => List.mem_cons_of_mem _ (List.mem_append_left _ (List.mem_append_right _ h))) (by decide +kernel))) (goodIn_sub (fun _ h => List.mem_cons_of_mem _ (List.mem_append_right _ h)) (by decide +kernel))
set_option maxRecDepth 20000 in
theorem gL_originLine_X1_originLine : GoodIn wsL_originLine (wsV RL 51 RX1 yX1_originLine wsX1_originLine) := goodIn_app (goodIn_of _ (by decide +kernel)) ggL_originLine_X1_originLine
theorem dL_originLine_0 : decode cL_originLine 0 = .ok (.aload_n 3, 1) := by decide +kernel
theorem dL_originLine_1 : decode cL_originLine 1 = .ok (.iconst 0, 1) := by decide +kernel
theorem dL_originLine_2 : decode cL_originLine 2 = .ok (.aload_n 0, 1) := by decide +kernel
theorem dL_originLine_3 : decode cL_originLine 3 = .ok (.iload_n 1, 1) := by decide +kernel
theorem dL_originLine_4 : decode cL_originLine 4 = .ok (.iload_n 2, 1) := by decide +kernel
theorem dL_originLine_5 : decode cL_originLine 5 = .ok (.invokevirtual 51, 3) := by decide +kernel
theorem dL_originLine_8 : decode cL_originLine 8 = .ok (.i2l, 1) := by decide +kernel
theorem dL_originLine_9 : decode cL_originLine 9 = .ok (.lastore, 1) := by decide +kernel
theorem dL_originLine_10 : decode cL_originLine 10 = .ok (.goto 7, 3) := by decide +kernel
theorem dL_originLine_13 : decode cL_originLine 13 = .ok (.astore 4, 2) := by decide +kernel
theorem dL_originLine_15 : decode cL_originLine 15 = .ok (.iconst 1, 1) := by decide +kernel
theorem dL_originLine_16 : decode cL_originLine 16 = .ok (.ireturn, 1) := by decide +kernel
theorem dL_originLine_17 : decode cL_originLine 17 = .ok (.iconst 0, 1) := by decide +kernel
theorem dL_originLine_18 : decode cL_originLine 18 = .ok (.ireturn, 1) := by decide +kernel
set_option maxRecDepth 20000 in
theorem ggL_kind_X1_kind : GoodIn wsL_kind wsX1_kind := goodIn_ca (goodIn_ca (goodIn_r _ [6, 7, 8, 9, 5, 10, 11, 12, 13, 14, 15, 16, 17, 18, 19, 20, 21, 22, 23, 24, 25, 26, 27, 28, 29, 30, 31, 32, 33, 34, 35, 36, 37, 38, 39, 40, 41, 42, 43, 44, 45, 46, 47, 48, 49, 50, 51, 52, 53, 54, 55, 56, 57, 58, 59, 60, 61, 62, 63, 64, 65, 66, 67, 68, 69, 70, 71, 72, 73, 74, 75, 76, 77, 78, 79, 80, 81, 82, 83, 84, 85, 86, 87, 88, 89, 90, 91, 92, 93, 94, 95] rfl (by decide +kernel)) (goodIn_sub (fun _ h => List.mem_cons_of_mem _ (List.mem_append_left _ (List.mem_append_right _ h))) (by decide +kernel))) (goodIn_sub (fun _ h => List.mem_cons_of_mem _ (List.mem_append_right _ h)) (by decide +kernel))
set_option maxRecDepth 20000 in
theorem gL_kind_X1_kind : GoodIn wsL_kind (wsV RL 54 RX1 yX1_kind wsX1_kind) := goodIn_app (goodIn_of _ (by decide +kernel)) ggL_kind_X1_kind
theorem dL_kind_0 : decode cL_kind 0 = .ok (.aload_n 3, 1) := by decide +kernel
theorem dL_kind_1 : decode cL_kind 1 = .ok (.iconst 0, 1) := by decide +kernel
theorem dL_kind_2 : decode cL_kind 2 = .ok (.aload_n 0, 1) := by decide +kernel
theorem dL_kind_3 : decode cL_kind 3 = .ok (.iload_n 1, 1) := by decide +kernel
theorem dL_kind_4 : decode cL_kind 4 = .ok (.iload_n 2, 1) := by decide +kernel
theorem dL_kind_5 : decode cL_kind 5 = .ok (.invokevirtual 54, 3) := by decide +kernel
theorem dL_kind_8 : decode cL_kind 8 = .ok (.i2l, 1) := by decide +kernel
theorem dL_kind_9 : decode cL_kind 9 = .ok (.lastore, 1) := by decide +kernel
theorem dL_kind_10 : decode cL_kind 10 = .ok (.goto 7, 3) := by decide +kernel
theorem dL_kind_13 : decode cL_kind 13 = .ok (.astore 4, 2) := by decide +kernel
theorem dL_kind_15 : decode cL_kind 15 = .ok (.iconst 1, 1) := by decide +kernel
theorem dL_kind_16 : decode cL_kind 16 = .ok (.ireturn, 1) := by decide +kernel
theorem dL_kind_17 : decode cL_kind 17 = .ok (.iconst 0, 1) := by decide +kernel
theorem dL_kind_18 : decode cL_kind 18 = .ok (.ireturn, 1) := by decide +kernel
set_option maxRecDepth 20000 in
theorem ggL_signature_X1_signature : GoodIn wsL_signature wsX1_signature := goodIn_ca (goodIn_ca (goodIn_r _ [6, 7, 8, 9, 5, 10, 11, 12, 13, 14, 15, 16, 17, 18, 19, 20, 21, 22, 23, 24, 25, 26, 27, 28, 29, 30, 31, 32, 33, 34, 35, 36, 37, 38, 39, 40, 41, 42, 43, 44, 45, 46, 47, 48, 49, 50] rfl (by decide +kernel)) (goodIn_sub (fun _ h => List.mem_cons_of_mem _ (List.mem_append_right _ h)) (by decide +kernel))) (goodIn_sub (fun _ h => List.mem_cons_of_mem _ (List.mem_append_left _ (List.mem_append_right _ h))) (by decide +kernel))
set_option maxRecDepth 20000 in
theorem gL_signature_X1_signature : GoodIn wsL_signature (wsV RL 58 RX1 yX1_signature wsX1_signature) := goodIn_app (goodIn_of _ (by decide +kernel)) ggL_signature_X1_signature
theorem dL_signature_0 : decode cL_signature 0 = .ok (.aload_n 2, 1) := by decide +kernel
theorem dL_signature_1 : decode cL_signature 1 = .ok (.iconst 0, 1) := by decide +kernel
theorem dL_signature_2 : decode cL_signature 2 = .ok (.aload_n 0, 1) := by decide +kernel
theorem dL_signature_3 : decode cL_signature 3 = .ok (.iload_n 1, 1) := by decide +kernel
theorem dL_signature_4 : decode cL_signature 4 = .ok (.invokevirtual 58, 3) := by decide +kernel
theorem dL_signature_7 : decode cL_signature 7 = .ok (.i2l, 1) := by decide +kernel
theorem dL_signature_8 : decode cL_signature 8 = .ok (.lastore, 1) := by decide +kernel
theorem dL_signature_9 : decode cL_signature 9 = .ok (.goto 6, 3) := by decide +kernel
theorem dL_signature_12 : decode cL_signature 12 = .ok (.astore_n 3, 1) := by decide +kernel
theorem dL_signature_13 : decode cL_signature 13 = .ok (.iconst 1, 1) := by decide +kernel
theorem dL_signature_14 : decode cL_signature 14 = .ok (.ireturn, 1) := by decide +kernel
theorem dL_signature_15 : decode cL_signature 15 = .ok (.iconst 0, 1) := by decide +kernel
theorem dL_signature_16 : decode cL_signature 16 = .ok (.ireturn, 1) := by decide +kernel
set_option maxRecDepth 20000 in
theorem ggL_answersMail_X1_answersMail : GoodIn wsL_answersMail wsX1_answersMail := goodIn_ca (goodIn_ca (goodIn_ca (goodIn_ca (goodIn_r _ [8, 9, 10, 11, 7, 12, 13, 14, 15, 16, 17, 18, 19, 20, 21, 22, 23, 24, 25, 26, 27, 28, 29, 30, 31, 32, 33, 34, 35, 36, 37, 38, 39, 40, 41, 42, 43, 44, 45, 46, 47, 48, 49, 50, 51, 52, 53, 54, 55, 56, 57, 58, 59, 60, 61, 62, 63, 64, 65, 66, 67, 68, 69, 70, 71, 72, 73, 74, 75, 76, 77, 78, 79, 80, 81, 82, 83, 84, 85, 86, 87, 88, 89, 90, 91, 92, 93, 94, 95, 96, 97, 98, 99, 100, 101, 102, 103, 104, 105, 106, 107, 108, 109, 110, 111, 112, 113, 114, 115, 116, 117] rfl (by decide +kernel)) (goodIn_sub (fun _ h => List.mem_cons_of_mem _ (List.mem_append_left _ (List.mem_append_left _ (List.mem_append_left _ (List.mem_append_right _ h))))) (by decide +kernel))) (goodIn_sub (fun _ h => List.mem_cons_of_mem _ (List.mem_append_left _ (List.mem_append_left _ (List.mem_append_right _ h)))) (by decide +kernel))) (goodIn_sub (fun _ h => List.mem_cons_of_mem _ (List.mem_append_left _ (List.mem_append_right _ h))) (by decide +kernel))) (goodIn_sub (fun _ h => List.mem_cons_of_mem _ (List.mem_append_right _ h)) (by decide +kernel))
set_option maxRecDepth 20000 in
theorem gL_answersMail_X1_answersMail : GoodIn wsL_answersMail (wsV RL 61 RX1 yX1_answersMail wsX1_answersMail) := goodIn_app (goodIn_of _ (by decide +kernel)) ggL_answersMail_X1_answersMail
theorem dL_answersMail_0 : decode cL_answersMail 0 = .ok (.aload_n 3, 1) := by decide +kernel
theorem dL_answersMail_1 : decode cL_answersMail 1 = .ok (.iconst 0, 1) := by decide +kernel
theorem dL_answersMail_2 : decode cL_answersMail 2 = .ok (.aload_n 0, 1) := by decide +kernel
theorem dL_answersMail_3 : decode cL_answersMail 3 = .ok (.iload_n 1, 1) := by decide +kernel
theorem dL_answersMail_4 : decode cL_answersMail 4 = .ok (.iload_n 2, 1) := by decide +kernel
theorem dL_answersMail_5 : decode cL_answersMail 5 = .ok (.invokevirtual 61, 3) := by decide +kernel
theorem dL_answersMail_8 : decode cL_answersMail 8 = .ok (.i2l, 1) := by decide +kernel
theorem dL_answersMail_9 : decode cL_answersMail 9 = .ok (.lastore, 1) := by decide +kernel
theorem dL_answersMail_10 : decode cL_answersMail 10 = .ok (.goto 15, 3) := by decide +kernel
theorem dL_answersMail_13 : decode cL_answersMail 13 = .ok (.astore 4, 2) := by decide +kernel
theorem dL_answersMail_15 : decode cL_answersMail 15 = .ok (.iconst 1, 1) := by decide +kernel
theorem dL_answersMail_16 : decode cL_answersMail 16 = .ok (.ireturn, 1) := by decide +kernel
theorem dL_answersMail_17 : decode cL_answersMail 17 = .ok (.astore 4, 2) := by decide +kernel
theorem dL_answersMail_19 : decode cL_answersMail 19 = .ok (.iconst 2, 1) := by decide +kernel
theorem dL_answersMail_20 : decode cL_answersMail 20 = .ok (.ireturn, 1) := by decide +kernel
theorem dL_answersMail_21 : decode cL_answersMail 21 = .ok (.astore 4, 2) := by decide +kernel
theorem dL_answersMail_23 : decode cL_answersMail 23 = .ok (.iconst 3, 1) := by decide +kernel
theorem dL_answersMail_24 : decode cL_answersMail 24 = .ok (.ireturn, 1) := by decide +kernel
theorem dL_answersMail_25 : decode cL_answersMail 25 = .ok (.iconst 0, 1) := by decide +kernel
theorem dL_answersMail_26 : decode cL_answersMail 26 = .ok (.ireturn, 1) := by decide +kernel
set_option maxRecDepth 20000 in
theorem ggL_answersLine_X1_answersLine : GoodIn wsL_answersLine wsX1_answersLine := goodIn_ca (goodIn_ca (goodIn_ca (goodIn_ca (goodIn_r _ [8, 9, 10, 11, 7, 12, 13, 14, 15, 16, 17, 18, 19, 20, 21, 22, 23, 24, 25, 26, 27, 28, 29, 30, 31, 32, 33, 34, 35, 36, 37, 38, 39, 40, 41, 42, 43, 44, 45, 46, 47, 48, 49, 50, 51, 52, 53, 54, 55, 56, 57, 58, 59, 60, 61, 62, 63, 64, 65, 66, 67, 68, 69, 70, 71, 72, 73, 74, 75, 76, 77, 78, 79, 80, 81, 82, 83, 84, 85, 86, 87, 88, 89, 90, 91, 92, 93, 94, 95, 96, 97, 98, 99, 100, 101, 102, 103, 104, 105, 106, 107, 108, 109, 110, 111, 112, 113, 114, 115, 116, 117] rfl (by decide +kernel)) (goodIn_sub (fun _ h => List.mem_cons_of_mem _ (List.mem_append_left _ (List.mem_append_left _ (List.mem_append_left _ (List.mem_append_right _ h))))) (by decide +kernel))) (goodIn_sub (fun _ h => List.mem_cons_of_mem _ (List.mem_append_left _ (List.mem_append_left _ (List.mem_append_right _ h)))) (by decide +kernel))) (goodIn_sub (fun _ h => List.mem_cons_of_mem _ (List.mem_append_left _ (List.mem_append_right _ h))) (by decide +kernel))) (goodIn_sub (fun _ h => List.mem_cons_of_mem _ (List.mem_append_right _ h)) (by decide +kernel))
set_option maxRecDepth 20000 in
theorem gL_answersLine_X1_answersLine : GoodIn wsL_answersLine (wsV RL 66 RX1 yX1_answersLine wsX1_answersLine) := goodIn_app (goodIn_of _ (by decide +kernel)) ggL_answersLine_X1_answersLine
theorem dL_answersLine_0 : decode cL_answersLine 0 = .ok (.aload_n 3, 1) := by decide +kernel
theorem dL_answersLine_1 : decode cL_answersLine 1 = .ok (.iconst 0, 1) := by decide +kernel
theorem dL_answersLine_2 : decode cL_answersLine 2 = .ok (.aload_n 0, 1) := by decide +kernel
theorem dL_answersLine_3 : decode cL_answersLine 3 = .ok (.iload_n 1, 1) := by decide +kernel
theorem dL_answersLine_4 : decode cL_answersLine 4 = .ok (.iload_n 2, 1) := by decide +kernel
theorem dL_answersLine_5 : decode cL_answersLine 5 = .ok (.invokevirtual 66, 3) := by decide +kernel
theorem dL_answersLine_8 : decode cL_answersLine 8 = .ok (.i2l, 1) := by decide +kernel
theorem dL_answersLine_9 : decode cL_answersLine 9 = .ok (.lastore, 1) := by decide +kernel
theorem dL_answersLine_10 : decode cL_answersLine 10 = .ok (.goto 15, 3) := by decide +kernel
theorem dL_answersLine_13 : decode cL_answersLine 13 = .ok (.astore 4, 2) := by decide +kernel
theorem dL_answersLine_15 : decode cL_answersLine 15 = .ok (.iconst 1, 1) := by decide +kernel
theorem dL_answersLine_16 : decode cL_answersLine 16 = .ok (.ireturn, 1) := by decide +kernel
theorem dL_answersLine_17 : decode cL_answersLine 17 = .ok (.astore 4, 2) := by decide +kernel
theorem dL_answersLine_19 : decode cL_answersLine 19 = .ok (.iconst 2, 1) := by decide +kernel
theorem dL_answersLine_20 : decode cL_answersLine 20 = .ok (.ireturn, 1) := by decide +kernel
theorem dL_answersLine_21 : decode cL_answersLine 21 = .ok (.astore 4, 2) := by decide +kernel
theorem dL_answersLine_23 : decode cL_answersLine 23 = .ok (.iconst 3, 1) := by decide +kernel
theorem dL_answersLine_24 : decode cL_answersLine 24 = .ok (.ireturn, 1) := by decide +kernel
theorem dL_answersLine_25 : decode cL_answersLine 25 = .ok (.iconst 0, 1) := by decide +kernel
theorem dL_answersLine_26 : decode cL_answersLine 26 = .ok (.ireturn, 1) := by decide +kernel
set_option maxRecDepth 20000 in
theorem ggL_answers_X1_answers : GoodIn wsL_answers wsX1_answers := goodIn_ca (goodIn_ca (goodIn_r _ [6, 7, 8, 9, 5, 10, 11, 12, 13, 14, 15, 16, 17, 18, 19, 20, 21, 22, 23, 24, 25, 26, 27, 28, 29, 30, 31, 32, 33, 34, 35, 36, 37, 38, 39, 40, 41, 42, 43, 44, 45, 46, 47, 48, 49, 50, 51, 52, 53, 54, 55, 56, 57, 58, 59, 60, 61, 62, 63, 64, 65, 66, 67, 68, 69, 70, 71, 72, 73, 74, 75, 76, 77, 78, 79, 80, 81, 82, 83, 84, 85, 86, 87, 88, 89, 90, 91, 92, 93, 94, 95, 96, 97, 98, 99, 100, 101, 102, 103, 104, 105, 106, 107] rfl (by decide +kernel)) (goodIn_sub (fun _ h => List.mem_cons_of_mem _ (List.mem_append_left _ (List.mem_append_right _ h))) (by decide +kernel))) (goodIn_sub (fun _ h => List.mem_cons_of_mem _ (List.mem_append_right _ h)) (by decide +kernel))
set_option maxRecDepth 20000 in
theorem gL_answers_X1_answers : GoodIn wsL_answers (wsV RL 69 RX1 yX1_answers wsX1_answers) := goodIn_app (goodIn_of _ (by decide +kernel)) ggL_answers_X1_answers
theorem dL_answers_0 : decode cL_answers 0 = .ok (.aload_n 3, 1) := by decide +kernel
theorem dL_answers_1 : decode cL_answers 1 = .ok (.iconst 0, 1) := by decide +kernel
theorem dL_answers_2 : decode cL_answers 2 = .ok (.aload_n 0, 1) := by decide +kernel
theorem dL_answers_3 : decode cL_answers 3 = .ok (.iload_n 1, 1) := by decide +kernel
theorem dL_answers_4 : decode cL_answers 4 = .ok (.iload_n 2, 1) := by decide +kernel
theorem dL_answers_5 : decode cL_answers 5 = .ok (.invokevirtual 69, 3) := by decide +kernel
theorem dL_answers_8 : decode cL_answers 8 = .ok (.i2l, 1) := by decide +kernel
theorem dL_answers_9 : decode cL_answers 9 = .ok (.lastore, 1) := by decide +kernel
theorem dL_answers_10 : decode cL_answers 10 = .ok (.goto 7, 3) := by decide +kernel
theorem dL_answers_13 : decode cL_answers 13 = .ok (.astore 4, 2) := by decide +kernel
theorem dL_answers_15 : decode cL_answers 15 = .ok (.iconst 1, 1) := by decide +kernel
theorem dL_answers_16 : decode cL_answers 16 = .ok (.ireturn, 1) := by decide +kernel
theorem dL_answers_17 : decode cL_answers 17 = .ok (.iconst 0, 1) := by decide +kernel
theorem dL_answers_18 : decode cL_answers 18 = .ok (.ireturn, 1) := by decide +kernel
set_option maxRecDepth 20000 in
theorem ggL_copies_X1_copies : GoodIn wsL_copies wsX1_copies := goodIn_ca (goodIn_ca (goodIn_ca (goodIn_r _ [7, 8, 9, 10, 11, 12, 6, 13, 14, 15, 16, 17, 18, 19, 20, 21, 22, 23, 24, 25, 26, 27, 28, 29, 30, 31, 32, 33, 34, 35, 36, 37, 38, 39, 40, 41, 42, 43, 44, 45, 46, 47, 48, 49, 50, 51, 52, 53, 54, 55, 56, 57, 58, 59, 60, 61, 62, 63, 64, 65, 66, 67, 68, 69, 70, 71, 72, 73, 74, 75, 76, 77, 78, 79, 80, 81, 82, 83, 84, 85, 86, 87, 88, 89, 90, 91, 92, 93, 94, 95, 96, 97, 98, 99, 100, 101, 102, 103, 104, 105, 106] rfl (by decide +kernel)) (goodIn_sub (fun _ h => List.mem_cons_of_mem _ (List.mem_append_left _ (List.mem_append_right _ h))) (by decide +kernel))) (goodIn_sub (fun _ h => List.mem_cons_of_mem _ (List.mem_append_left _ (List.mem_append_left _ (List.mem_append_right _ h)))) (by decide +kernel))) (goodIn_sub (fun _ h => List.mem_cons_of_mem _ (List.mem_append_right _ h)) (by decide +kernel))
set_option maxRecDepth 20000 in
theorem gL_copies_X1_copies : GoodIn wsL_copies (wsV RL 72 RX1 yX1_copies wsX1_copies) := goodIn_app (goodIn_of _ (by decide +kernel)) ggL_copies_X1_copies
theorem dL_copies_0 : decode cL_copies 0 = .ok (.aload_n 3, 1) := by decide +kernel
theorem dL_copies_1 : decode cL_copies 1 = .ok (.iconst 0, 1) := by decide +kernel
theorem dL_copies_2 : decode cL_copies 2 = .ok (.aload_n 0, 1) := by decide +kernel
theorem dL_copies_3 : decode cL_copies 3 = .ok (.iload_n 1, 1) := by decide +kernel
theorem dL_copies_4 : decode cL_copies 4 = .ok (.iload_n 2, 1) := by decide +kernel
theorem dL_copies_5 : decode cL_copies 5 = .ok (.invokevirtual 72, 3) := by decide +kernel
theorem dL_copies_8 : decode cL_copies 8 = .ok (.i2l, 1) := by decide +kernel
theorem dL_copies_9 : decode cL_copies 9 = .ok (.lastore, 1) := by decide +kernel
theorem dL_copies_10 : decode cL_copies 10 = .ok (.goto 11, 3) := by decide +kernel
theorem dL_copies_13 : decode cL_copies 13 = .ok (.astore 4, 2) := by decide +kernel
theorem dL_copies_15 : decode cL_copies 15 = .ok (.iconst 1, 1) := by decide +kernel
theorem dL_copies_16 : decode cL_copies 16 = .ok (.ireturn, 1) := by decide +kernel
theorem dL_copies_17 : decode cL_copies 17 = .ok (.astore 4, 2) := by decide +kernel
theorem dL_copies_19 : decode cL_copies 19 = .ok (.iconst 2, 1) := by decide +kernel
theorem dL_copies_20 : decode cL_copies 20 = .ok (.ireturn, 1) := by decide +kernel
theorem dL_copies_21 : decode cL_copies 21 = .ok (.iconst 0, 1) := by decide +kernel
theorem dL_copies_22 : decode cL_copies 22 = .ok (.ireturn, 1) := by decide +kernel
set_option maxRecDepth 20000 in
theorem ggL_root_X1_root : GoodIn wsL_root wsX1_root := goodIn_ca (goodIn_ca (goodIn_r _ [6, 7, 8, 9, 5, 10, 11, 12, 13, 14, 15, 16, 17, 18, 19, 20, 21, 22, 23, 24, 25, 26, 27, 28, 29, 30, 31, 32, 33, 34, 35, 36, 37, 38, 39, 40, 41, 42, 43, 44, 45, 46, 47] rfl (by decide +kernel)) (goodIn_sub (fun _ h => List.mem_cons_of_mem _ (List.mem_append_right _ h)) (by decide +kernel))) (goodIn_sub (fun _ h => List.mem_cons_of_mem _ (List.mem_append_left _ (List.mem_append_right _ h))) (by decide +kernel))
set_option maxRecDepth 20000 in
theorem gL_root_X1_root : GoodIn wsL_root (wsV RL 75 RX1 yX1_root wsX1_root) := goodIn_app (goodIn_of _ (by decide +kernel)) ggL_root_X1_root
theorem dL_root_0 : decode cL_root 0 = .ok (.aload_n 2, 1) := by decide +kernel
theorem dL_root_1 : decode cL_root 1 = .ok (.iconst 0, 1) := by decide +kernel
theorem dL_root_2 : decode cL_root 2 = .ok (.aload_n 0, 1) := by decide +kernel
theorem dL_root_3 : decode cL_root 3 = .ok (.iload_n 1, 1) := by decide +kernel
theorem dL_root_4 : decode cL_root 4 = .ok (.invokevirtual 75, 3) := by decide +kernel
theorem dL_root_7 : decode cL_root 7 = .ok (.i2l, 1) := by decide +kernel
theorem dL_root_8 : decode cL_root 8 = .ok (.lastore, 1) := by decide +kernel
theorem dL_root_9 : decode cL_root 9 = .ok (.goto 6, 3) := by decide +kernel
theorem dL_root_12 : decode cL_root 12 = .ok (.astore_n 3, 1) := by decide +kernel
theorem dL_root_13 : decode cL_root 13 = .ok (.iconst 1, 1) := by decide +kernel
theorem dL_root_14 : decode cL_root 14 = .ok (.ireturn, 1) := by decide +kernel
theorem dL_root_15 : decode cL_root 15 = .ok (.iconst 0, 1) := by decide +kernel
theorem dL_root_16 : decode cL_root 16 = .ok (.ireturn, 1) := by decide +kernel
set_option maxRecDepth 20000 in
theorem ggL_rootByRounds_X1_rootByRounds : GoodIn wsL_rootByRounds wsX1_rootByRounds := goodIn_ca (goodIn_ca (goodIn_r _ [6, 7, 8, 9, 10, 11, 5, 12, 13, 14, 15, 16, 17, 18, 19, 20, 21, 22, 23, 24, 25, 26, 27, 28, 29, 30, 31, 32, 33, 34, 35, 36, 37, 38, 39, 40, 41, 42, 43, 44, 45, 46, 47, 48] rfl (by decide +kernel)) (goodIn_sub (fun _ h => List.mem_cons_of_mem _ (List.mem_append_left _ (List.mem_append_right _ h))) (by decide +kernel))) (goodIn_sub (fun _ h => List.mem_cons_of_mem _ (List.mem_append_right _ h)) (by decide +kernel))
set_option maxRecDepth 20000 in
theorem gL_rootByRounds_X1_rootByRounds : GoodIn wsL_rootByRounds (wsV RL 78 RX1 yX1_rootByRounds wsX1_rootByRounds) := goodIn_app (goodIn_of _ (by decide +kernel)) ggL_rootByRounds_X1_rootByRounds
theorem dL_rootByRounds_0 : decode cL_rootByRounds 0 = .ok (.aload_n 2, 1) := by decide +kernel
theorem dL_rootByRounds_1 : decode cL_rootByRounds 1 = .ok (.iconst 0, 1) := by decide +kernel
theorem dL_rootByRounds_2 : decode cL_rootByRounds 2 = .ok (.aload_n 0, 1) := by decide +kernel
theorem dL_rootByRounds_3 : decode cL_rootByRounds 3 = .ok (.iload_n 1, 1) := by decide +kernel
theorem dL_rootByRounds_4 : decode cL_rootByRounds 4 = .ok (.invokevirtual 78, 3) := by decide +kernel
theorem dL_rootByRounds_7 : decode cL_rootByRounds 7 = .ok (.i2l, 1) := by decide +kernel
theorem dL_rootByRounds_8 : decode cL_rootByRounds 8 = .ok (.lastore, 1) := by decide +kernel
theorem dL_rootByRounds_9 : decode cL_rootByRounds 9 = .ok (.goto 6, 3) := by decide +kernel
theorem dL_rootByRounds_12 : decode cL_rootByRounds 12 = .ok (.astore_n 3, 1) := by decide +kernel
theorem dL_rootByRounds_13 : decode cL_rootByRounds 13 = .ok (.iconst 1, 1) := by decide +kernel
theorem dL_rootByRounds_14 : decode cL_rootByRounds 14 = .ok (.ireturn, 1) := by decide +kernel
theorem dL_rootByRounds_15 : decode cL_rootByRounds 15 = .ok (.iconst 0, 1) := by decide +kernel
theorem dL_rootByRounds_16 : decode cL_rootByRounds 16 = .ok (.ireturn, 1) := by decide +kernel
set_option maxRecDepth 20000 in
theorem ggL_size_X1_size : GoodIn wsL_size wsX1_size := goodIn_ca (goodIn_ca (goodIn_r _ [6, 7, 8, 9, 10, 5, 11, 12, 13, 14, 15, 16, 17, 18, 19, 20, 21, 22, 23, 24, 25, 26, 27, 28, 29, 30, 31, 32, 33, 34, 35, 36, 37, 38, 39, 40, 41, 42, 43, 44, 45, 46, 47] rfl (by decide +kernel)) (goodIn_sub (fun _ h => List.mem_cons_of_mem _ (List.mem_append_right _ h)) (by decide +kernel))) (goodIn_sub (fun _ h => List.mem_cons_of_mem _ (List.mem_append_left _ (List.mem_append_right _ h))) (by decide +kernel))
set_option maxRecDepth 20000 in
theorem gL_size_X1_size : GoodIn wsL_size (wsV RL 81 RX1 yX1_size wsX1_size) := goodIn_app (goodIn_of _ (by decide +kernel)) ggL_size_X1_size
theorem dL_size_0 : decode cL_size 0 = .ok (.aload_n 2, 1) := by decide +kernel
theorem dL_size_1 : decode cL_size 1 = .ok (.iconst 0, 1) := by decide +kernel
theorem dL_size_2 : decode cL_size 2 = .ok (.aload_n 0, 1) := by decide +kernel
theorem dL_size_3 : decode cL_size 3 = .ok (.iload_n 1, 1) := by decide +kernel
theorem dL_size_4 : decode cL_size 4 = .ok (.invokevirtual 81, 3) := by decide +kernel
theorem dL_size_7 : decode cL_size 7 = .ok (.i2l, 1) := by decide +kernel
theorem dL_size_8 : decode cL_size 8 = .ok (.lastore, 1) := by decide +kernel
theorem dL_size_9 : decode cL_size 9 = .ok (.goto 6, 3) := by decide +kernel
theorem dL_size_12 : decode cL_size 12 = .ok (.astore_n 3, 1) := by decide +kernel
theorem dL_size_13 : decode cL_size 13 = .ok (.iconst 1, 1) := by decide +kernel
theorem dL_size_14 : decode cL_size 14 = .ok (.ireturn, 1) := by decide +kernel
theorem dL_size_15 : decode cL_size 15 = .ok (.iconst 0, 1) := by decide +kernel
theorem dL_size_16 : decode cL_size 16 = .ok (.ireturn, 1) := by decide +kernel
set_option maxRecDepth 20000 in
theorem ggL_newShare_X1_newShare : GoodIn wsL_newShare wsX1_newShare := goodIn_ca (goodIn_ca (goodIn_r _ [6, 7, 8, 9, 10, 11, 12, 13, 5, 14, 15, 16, 17, 18, 19, 20, 21, 22, 23, 24, 25, 26, 27, 28, 29, 30, 31, 32, 33, 34, 35, 36, 37, 38, 39, 40, 41, 42, 43, 44, 45, 46, 47, 48, 49, 50, 51, 52, 53, 54, 55, 56, 57, 58, 59, 60, 61, 62, 63, 64, 65, 66, 67, 68, 69, 70, 71, 72, 73, 74, 75, 76, 77, 78, 79, 80, 81, 82, 83, 84, 85, 86, 87, 88, 89, 90, 91, 92, 93, 94, 95] rfl (by decide +kernel)) (goodIn_sub (fun _ h => List.mem_cons_of_mem _ (List.mem_append_left _ (List.mem_append_right _ h))) (by decide +kernel))) (goodIn_sub (fun _ h => List.mem_cons_of_mem _ (List.mem_append_right _ h)) (by decide +kernel))
set_option maxRecDepth 20000 in
theorem gL_newShare_X1_newShare : GoodIn wsL_newShare (wsV RL 84 RX1 yX1_newShare wsX1_newShare) := goodIn_app (goodIn_of _ (by decide +kernel)) ggL_newShare_X1_newShare
theorem dL_newShare_0 : decode cL_newShare 0 = .ok (.aload_n 1, 1) := by decide +kernel
theorem dL_newShare_1 : decode cL_newShare 1 = .ok (.iconst 0, 1) := by decide +kernel
theorem dL_newShare_2 : decode cL_newShare 2 = .ok (.aload_n 0, 1) := by decide +kernel
theorem dL_newShare_3 : decode cL_newShare 3 = .ok (.invokevirtual 84, 3) := by decide +kernel
theorem dL_newShare_6 : decode cL_newShare 6 = .ok (.f2d, 1) := by decide +kernel
theorem dL_newShare_7 : decode cL_newShare 7 = .ok (.dastore, 1) := by decide +kernel
theorem dL_newShare_8 : decode cL_newShare 8 = .ok (.goto 6, 3) := by decide +kernel
theorem dL_newShare_11 : decode cL_newShare 11 = .ok (.astore_n 2, 1) := by decide +kernel
theorem dL_newShare_12 : decode cL_newShare 12 = .ok (.iconst 1, 1) := by decide +kernel
theorem dL_newShare_13 : decode cL_newShare 13 = .ok (.ireturn, 1) := by decide +kernel
theorem dL_newShare_14 : decode cL_newShare 14 = .ok (.iconst 0, 1) := by decide +kernel
theorem dL_newShare_15 : decode cL_newShare 15 = .ok (.ireturn, 1) := by decide +kernel
set_option maxRecDepth 20000 in
theorem ggL_meanSize_X1_meanSize : GoodIn wsL_meanSize wsX1_meanSize := goodIn_ca (goodIn_ca (goodIn_r _ [6, 7, 8, 9, 10, 11, 12, 5, 13, 14, 15, 16, 17, 18, 19, 20, 21, 22, 23, 24, 25, 26, 27, 28, 29, 30, 31, 32, 33, 34, 35, 36, 37, 38, 39, 40, 41, 42, 43, 44] rfl (by decide +kernel)) (goodIn_sub (fun _ h => List.mem_cons_of_mem _ (List.mem_append_right _ h)) (by decide +kernel))) (goodIn_sub (fun _ h => List.mem_cons_of_mem _ (List.mem_append_left _ (List.mem_append_right _ h))) (by decide +kernel))
set_option maxRecDepth 20000 in
theorem gL_meanSize_X1_meanSize : GoodIn wsL_meanSize (wsV RL 90 RX1 yX1_meanSize wsX1_meanSize) := goodIn_app (goodIn_of _ (by decide +kernel)) ggL_meanSize_X1_meanSize
theorem dL_meanSize_0 : decode cL_meanSize 0 = .ok (.aload_n 1, 1) := by decide +kernel
theorem dL_meanSize_1 : decode cL_meanSize 1 = .ok (.iconst 0, 1) := by decide +kernel
theorem dL_meanSize_2 : decode cL_meanSize 2 = .ok (.aload_n 0, 1) := by decide +kernel
theorem dL_meanSize_3 : decode cL_meanSize 3 = .ok (.invokevirtual 90, 3) := by decide +kernel
theorem dL_meanSize_6 : decode cL_meanSize 6 = .ok (.dastore, 1) := by decide +kernel
theorem dL_meanSize_7 : decode cL_meanSize 7 = .ok (.goto 6, 3) := by decide +kernel
theorem dL_meanSize_10 : decode cL_meanSize 10 = .ok (.astore_n 2, 1) := by decide +kernel
theorem dL_meanSize_11 : decode cL_meanSize 11 = .ok (.iconst 1, 1) := by decide +kernel
theorem dL_meanSize_12 : decode cL_meanSize 12 = .ok (.ireturn, 1) := by decide +kernel
theorem dL_meanSize_13 : decode cL_meanSize 13 = .ok (.iconst 0, 1) := by decide +kernel
theorem dL_meanSize_14 : decode cL_meanSize 14 = .ok (.ireturn, 1) := by decide +kernel

