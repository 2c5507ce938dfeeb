set_option maxRecDepth 20000 in
theorem ggL_arrive_X1_arrive : GoodIn wsL_arrive wsX1_arrive := goodIn_ca (goodIn_ca (goodIn_ca (goodIn_r _ [7, 8, 9, 10, 11, 12, 13, 14, 15, 16, 17, 18, 6, 19, 20, 21, 22, 23, 24, 25, 26, 27, 28, 29, 30, 31, 32, 33, 34, 35] rfl (by decide +kernel)) (goodIn_sub (fun _ h => List.mem_cons_of_mem _ (List.mem_append_left _ (List.mem_append_left _ (List.mem_append_right _ h)))) (by decide +kernel))) (goodIn_sub (fun _ h => List.mem_cons_of_mem _ (List.mem_append_left _ (List.mem_append_right _ h))) (by decide +kernel))) (goodIn_sub (fun _ h => List.mem_cons_of_mem _ (List.mem_append_right _ h)) (by decide +kernel))
set_option maxRecDepth 20000 in
theorem gL_arrive_X1_arrive : GoodIn wsL_arrive (wsV RL 8 RX1 yX1_arrive wsX1_arrive) := goodIn_app (goodIn_of _ (by decide +kernel)) ggL_arrive_X1_arrive
theorem dL_arrive_0 : decode cL_arrive 0 = .ok (.aload_n 0, 1) := by decide +kernel
theorem dL_arrive_1 : decode cL_arrive 1 = .ok (.iload_n 1, 1) := by decide +kernel
theorem dL_arrive_2 : decode cL_arrive 2 = .ok (.iload_n 2, 1) := by decide +kernel
theorem dL_arrive_3 : decode cL_arrive 3 = .ok (.iload_n 3, 1) := by decide +kernel
theorem dL_arrive_4 : decode cL_arrive 4 = .ok (.iload 4, 2) := by decide +kernel
theorem dL_arrive_6 : decode cL_arrive 6 = .ok (.invokevirtual 8, 3) := by decide +kernel
theorem dL_arrive_9 : decode cL_arrive 9 = .ok (.ireturn, 1) := by decide +kernel
theorem dL_arrive_10 : decode cL_arrive 10 = .ok (.astore 5, 2) := by decide +kernel
theorem dL_arrive_12 : decode cL_arrive 12 = .ok (.sipush (-1001), 3) := by decide +kernel
theorem dL_arrive_15 : decode cL_arrive 15 = .ok (.ireturn, 1) := by decide +kernel
theorem dL_arrive_16 : decode cL_arrive 16 = .ok (.astore 5, 2) := by decide +kernel
theorem dL_arrive_18 : decode cL_arrive 18 = .ok (.sipush (-1002), 3) := by decide +kernel
theorem dL_arrive_21 : decode cL_arrive 21 = .ok (.ireturn, 1) := by decide +kernel
set_option maxRecDepth 20000 in
theorem ggL_addLine_X1_addLine : GoodIn wsL_addLine wsX1_addLine := goodIn_ca (goodIn_ca (goodIn_ca (goodIn_ca (goodIn_r _ [8, 9, 10, 11, 12, 13, 14, 15, 16, 17, 18, 7, 19, 20, 21, 22, 23, 24, 25, 26, 27, 28, 29, 30, 31, 32, 33, 34, 35, 36, 37, 38, 39, 40, 41, 42, 43, 44, 45, 46, 47, 48, 49, 50, 51, 52, 53, 54, 55, 56, 57, 58, 59, 60, 61, 62, 63, 64, 65, 66, 67, 68, 69, 70, 71, 72, 73, 74, 75, 76, 77, 78, 79, 80, 81, 82, 83, 84, 85, 86, 87, 88, 89, 90, 91, 92, 93, 94, 95, 96, 97, 98] rfl (by decide +kernel)) (goodIn_sub (fun _ h => List.mem_cons_of_mem _ (List.mem_append_left _ (List.mem_append_left _ (List.mem_append_left _ (List.mem_append_right _ h))))) (by decide +kernel))) (goodIn_sub (fun _ h => List.mem_cons_of_mem _ (List.mem_append_left _ (List.mem_append_left _ (List.mem_append_right _ h)))) (by decide +kernel))) (goodIn_sub (fun _ h => List.mem_cons_of_mem _ (List.mem_append_left _ (List.mem_append_right _ h))) (by decide +kernel))) (goodIn_sub (fun _ h => List.mem_cons_of_mem _ (List.mem_append_right _ h)) (by decide +kernel))
set_option maxRecDepth 20000 in
theorem gL_addLine_X1_addLine : GoodIn wsL_addLine (wsV RL 18 RX1 yX1_addLine wsX1_addLine) := goodIn_app (goodIn_of _ (by decide +kernel)) ggL_addLine_X1_addLine
theorem dL_addLine_0 : decode cL_addLine 0 = .ok (.aload_n 0, 1) := by decide +kernel
theorem dL_addLine_1 : decode cL_addLine 1 = .ok (.iload_n 1, 1) := by decide +kernel
theorem dL_addLine_2 : decode cL_addLine 2 = .ok (.iload_n 2, 1) := by decide +kernel
theorem dL_addLine_3 : decode cL_addLine 3 = .ok (.iload_n 3, 1) := by decide +kernel
theorem dL_addLine_4 : decode cL_addLine 4 = .ok (.invokevirtual 18, 3) := by decide +kernel
theorem dL_addLine_7 : decode cL_addLine 7 = .ok (.ireturn, 1) := by decide +kernel
theorem dL_addLine_8 : decode cL_addLine 8 = .ok (.astore 4, 2) := by decide +kernel
theorem dL_addLine_10 : decode cL_addLine 10 = .ok (.sipush (-1001), 3) := by decide +kernel
theorem dL_addLine_13 : decode cL_addLine 13 = .ok (.ireturn, 1) := by decide +kernel
theorem dL_addLine_14 : decode cL_addLine 14 = .ok (.astore 4, 2) := by decide +kernel
theorem dL_addLine_16 : decode cL_addLine 16 = .ok (.sipush (-1002), 3) := by decide +kernel
theorem dL_addLine_19 : decode cL_addLine 19 = .ok (.ireturn, 1) := by decide +kernel
theorem dL_addLine_20 : decode cL_addLine 20 = .ok (.astore 4, 2) := by decide +kernel
theorem dL_addLine_22 : decode cL_addLine 22 = .ok (.sipush (-1003), 3) := by decide +kernel
theorem dL_addLine_25 : decode cL_addLine 25 = .ok (.ireturn, 1) := by decide +kernel
set_option maxRecDepth 20000 in
theorem ggL_removeLine_X1_removeLine : GoodIn wsL_removeLine wsX1_removeLine := goodIn_ca (goodIn_ca (goodIn_ca (goodIn_r _ [7, 8, 9, 10, 11, 12, 13, 6, 14, 15, 16, 17, 18, 19, 20, 21, 22, 23, 24, 25, 26, 27, 28, 29, 30, 31, 32, 33, 34, 35, 36, 37, 38, 39, 40, 41, 42, 43, 44, 45, 46, 47, 48, 49, 50, 51, 52, 53, 54, 55, 56, 57, 58, 59, 60, 61, 62, 63, 64, 65, 66, 67, 68, 69, 70, 71, 72, 73, 74, 75, 76, 77, 78, 79, 80, 81, 82, 83, 84, 85, 86, 87, 88, 89, 90, 91, 92, 93, 94, 95] rfl (by decide +kernel)) (goodIn_sub (fun _ h => List.mem_cons_of_mem _ (List.mem_append_left _ (List.mem_append_left _ (List.mem_append_right _ h)))) (by decide +kernel))) (goodIn_sub (fun _ h => List.mem_cons_of_mem _ (List.mem_append_left _ (List.mem_append_right _ h))) (by decide +kernel))) (goodIn_sub (fun _ h => List.mem_cons_of_mem _ (List.mem_append_right _ h)) (by decide +kernel))
set_option maxRecDepth 20000 in
theorem gL_removeLine_X1_removeLine : GoodIn wsL_removeLine (wsV RL 24 RX1 yX1_removeLine wsX1_removeLine) := goodIn_app (goodIn_of _ (by decide +kernel)) ggL_removeLine_X1_removeLine
theorem dL_removeLine_0 : decode cL_removeLine 0 = .ok (.aload_n 0, 1) := by decide +kernel
theorem dL_removeLine_1 : decode cL_removeLine 1 = .ok (.iload_n 1, 1) := by decide +kernel
theorem dL_removeLine_2 : decode cL_removeLine 2 = .ok (.invokevirtual 24, 3) := by decide +kernel
theorem dL_removeLine_5 : decode cL_removeLine 5 = .ok (.ireturn, 1) := by decide +kernel
theorem dL_removeLine_6 : decode cL_removeLine 6 = .ok (.astore_n 2, 1) := by decide +kernel
theorem dL_removeLine_7 : decode cL_removeLine 7 = .ok (.sipush (-1001), 3) := by decide +kernel
theorem dL_removeLine_10 : decode cL_removeLine 10 = .ok (.ireturn, 1) := by decide +kernel
theorem dL_removeLine_11 : decode cL_removeLine 11 = .ok (.astore_n 2, 1) := by decide +kernel
theorem dL_removeLine_12 : decode cL_removeLine 12 = .ok (.sipush (-1002), 3) := by decide +kernel
theorem dL_removeLine_15 : decode cL_removeLine 15 = .ok (.ireturn, 1) := by decide +kernel
set_option maxRecDepth 20000 in
theorem ggL_lines_X1_lines : GoodIn wsL_lines wsX1_lines := goodIn_ca (goodIn_ca (goodIn_r _ [6, 7, 8, 9, 10, 5, 11, 12, 13, 14, 15, 16, 17, 18, 19, 20, 21, 22, 23, 24, 25, 26, 27, 28, 29] rfl (by decide +kernel)) (goodIn_sub (fun _ h => List.mem_cons_of_mem _ (List.mem_append_left _ (List.mem_append_right _ h))) (by decide +kernel))) (goodIn_sub (fun _ h => List.mem_cons_of_mem _ (List.mem_append_right _ h)) (by decide +kernel))
set_option maxRecDepth 20000 in
theorem gL_lines_X1_lines : GoodIn wsL_lines (wsV RL 28 RX1 yX1_lines wsX1_lines) := goodIn_app (goodIn_of _ (by decide +kernel)) ggL_lines_X1_lines
theorem dL_lines_0 : decode cL_lines 0 = .ok (.aload_n 0, 1) := by decide +kernel
theorem dL_lines_1 : decode cL_lines 1 = .ok (.iload_n 1, 1) := by decide +kernel
theorem dL_lines_2 : decode cL_lines 2 = .ok (.invokevirtual 28, 3) := by decide +kernel
theorem dL_lines_5 : decode cL_lines 5 = .ok (.ireturn, 1) := by decide +kernel
theorem dL_lines_6 : decode cL_lines 6 = .ok (.astore_n 2, 1) := by decide +kernel
theorem dL_lines_7 : decode cL_lines 7 = .ok (.sipush (-1001), 3) := by decide +kernel
theorem dL_lines_10 : decode cL_lines 10 = .ok (.ireturn, 1) := by decide +kernel
set_option maxRecDepth 20000 in
theorem ggL_word_X1_word : GoodIn wsL_word wsX1_word := goodIn_ca (goodIn_ca (goodIn_r _ [6, 7, 8, 9, 10, 5, 11, 12, 13, 14, 15, 16, 17, 18, 19, 20, 21, 22, 23, 24, 25, 26, 27, 28, 29, 30, 31, 32, 33, 34, 35, 36, 37] rfl (by decide +kernel)) (goodIn_sub (fun _ h => List.mem_cons_of_mem _ (List.mem_append_left _ (List.mem_append_right _ h))) (by decide +kernel))) (goodIn_sub (fun _ h => List.mem_cons_of_mem _ (List.mem_append_right _ h)) (by decide +kernel))
set_option maxRecDepth 20000 in
theorem gL_word_X1_word : GoodIn wsL_word (wsV RL 31 RX1 yX1_word wsX1_word) := goodIn_app (goodIn_of _ (by decide +kernel)) ggL_word_X1_word
theorem dL_word_0 : decode cL_word 0 = .ok (.aload_n 0, 1) := by decide +kernel
theorem dL_word_1 : decode cL_word 1 = .ok (.iload_n 1, 1) := by decide +kernel
theorem dL_word_2 : decode cL_word 2 = .ok (.iload_n 2, 1) := by decide +kernel
theorem dL_word_3 : decode cL_word 3 = .ok (.invokevirtual 31, 3) := by decide +kernel
theorem dL_word_6 : decode cL_word 6 = .ok (.ireturn, 1) := by decide +kernel
theorem dL_word_7 : decode cL_word 7 = .ok (.astore_n 3, 1) := by decide +kernel
theorem dL_word_8 : decode cL_word 8 = .ok (.sipush (-1001), 3) := by decide +kernel
theorem dL_word_11 : decode cL_word 11 = .ok (.ireturn, 1) := by decide +kernel
set_option maxRecDepth 20000 in
theorem ggL_parent_X1_parent : GoodIn wsL_parent wsX1_parent := goodIn_ca (goodIn_ca (goodIn_ca (goodIn_r _ [7, 8, 9, 10, 11, 12, 6, 13, 14, 15, 16, 17, 18, 19, 20, 21, 22, 23, 24, 25, 26, 27, 28, 29, 30, 31, 32, 33, 34, 35, 36, 37, 38, 39, 40, 41] rfl (by decide +kernel)) (goodIn_sub (fun _ h => List.mem_cons_of_mem _ (List.mem_append_left _ (List.mem_append_left _ (List.mem_append_right _ h)))) (by decide +kernel))) (goodIn_sub (fun _ h => List.mem_cons_of_mem _ (List.mem_append_left _ (List.mem_append_right _ h))) (by decide +kernel))) (goodIn_sub (fun _ h => List.mem_cons_of_mem _ (List.mem_append_right _ h)) (by decide +kernel))
set_option maxRecDepth 20000 in
theorem gL_parent_X1_parent : GoodIn wsL_parent (wsV RL 35 RX1 yX1_parent wsX1_parent) := goodIn_app (goodIn_of _ (by decide +kernel)) ggL_parent_X1_parent
theorem dL_parent_0 : decode cL_parent 0 = .ok (.aload_n 0, 1) := by decide +kernel
theorem dL_parent_1 : decode cL_parent 1 = .ok (.iload_n 1, 1) := by decide +kernel
theorem dL_parent_2 : decode cL_parent 2 = .ok (.invokevirtual 35, 3) := by decide +kernel
theorem dL_parent_5 : decode cL_parent 5 = .ok (.ireturn, 1) := by decide +kernel
theorem dL_parent_6 : decode cL_parent 6 = .ok (.astore_n 2, 1) := by decide +kernel
theorem dL_parent_7 : decode cL_parent 7 = .ok (.sipush (-1001), 3) := by decide +kernel
theorem dL_parent_10 : decode cL_parent 10 = .ok (.ireturn, 1) := by decide +kernel
theorem dL_parent_11 : decode cL_parent 11 = .ok (.astore_n 2, 1) := by decide +kernel
theorem dL_parent_12 : decode cL_parent 12 = .ok (.sipush (-1002), 3) := by decide +kernel
theorem dL_parent_15 : decode cL_parent 15 = .ok (.ireturn, 1) := by decide +kernel
set_option maxRecDepth 20000 in
theorem ggL_aligned_X1_aligned : GoodIn wsL_aligned wsX1_aligned := goodIn_ca (goodIn_ca (goodIn_r _ [6, 7, 8, 9, 10, 5, 11, 12, 13, 14, 15, 16, 17, 18, 19, 20, 21, 22, 23, 24, 25, 26, 27, 28, 29, 30, 31, 32, 33, 34, 35, 36, 37, 38, 39, 40, 41, 42, 43, 44, 45, 46, 47, 48, 49, 50, 51, 52, 53, 54, 55, 56, 57, 58, 59, 60, 61, 62, 63, 64, 65, 66, 67, 68, 69, 70, 71, 72, 73, 74, 75, 76, 77, 78, 79, 80, 81, 82, 83] rfl (by decide +kernel)) (goodIn_sub (fun _ h => List.mem_cons_of_mem _ (List.mem_append_left _ (List.mem_append_right _ h))) (by decide +kernel))) (goodIn_sub (fun _ h => List.mem_cons_of_mem _ (List.mem_append_right _ h)) (by decide +kernel))
set_option maxRecDepth 20000 in
theorem gL_aligned_X1_aligned : GoodIn wsL_aligned (wsV RL 40 RX1 yX1_aligned wsX1_aligned) := goodIn_app (goodIn_of _ (by decide +kernel)) ggL_aligned_X1_aligned
theorem dL_aligned_0 : decode cL_aligned 0 = .ok (.aload_n 0, 1) := by decide +kernel
theorem dL_aligned_1 : decode cL_aligned 1 = .ok (.iload_n 1, 1) := by decide +kernel
theorem dL_aligned_2 : decode cL_aligned 2 = .ok (.invokevirtual 40, 3) := by decide +kernel
theorem dL_aligned_5 : decode cL_aligned 5 = .ok (.ireturn, 1) := by decide +kernel
theorem dL_aligned_6 : decode cL_aligned 6 = .ok (.astore_n 2, 1) := by decide +kernel
theorem dL_aligned_7 : decode cL_aligned 7 = .ok (.sipush (-1001), 3) := by decide +kernel
theorem dL_aligned_10 : decode cL_aligned 10 = .ok (.ireturn, 1) := by decide +kernel
set_option maxRecDepth 20000 in
theorem ggL_alignedByTrying_X1_alignedByTrying : GoodIn wsL_alignedByTrying wsX1_alignedByTrying := goodIn_ca (goodIn_ca (goodIn_r _ [6, 7, 8, 9, 10, 5, 11, 12, 13, 14, 15, 16, 17, 18, 19, 20, 21, 22, 23, 24, 25, 26, 27, 28, 29, 30, 31, 32, 33, 34, 35, 36, 37, 38, 39, 40, 41, 42, 43, 44, 45, 46, 47, 48, 49, 50, 51, 52, 53, 54, 55, 56, 57, 58, 59, 60, 61, 62, 63, 64, 65, 66, 67, 68, 69, 70, 71, 72, 73, 74, 75, 76, 77, 78, 79, 80, 81] rfl (by decide +kernel)) (goodIn_sub (fun _ h => List.mem_cons_of_mem _ (List.mem_append_left _ (List.mem_append_right _ h))) (by decide +kernel))) (goodIn_sub (fun _ h => List.mem_cons_of_mem _ (List.mem_append_right _ h)) (by decide +kernel))
set_option maxRecDepth 20000 in
theorem gL_alignedByTrying_X1_alignedByTrying : GoodIn wsL_alignedByTrying (wsV RL 43 RX1 yX1_alignedByTrying wsX1_alignedByTrying) := goodIn_app (goodIn_of _ (by decide +kernel)) ggL_alignedByTrying_X1_alignedByTrying
theorem dL_alignedByTrying_0 : decode cL_alignedByTrying 0 = .ok (.aload_n 0, 1) := by decide +kernel
theorem dL_alignedByTrying_1 : decode cL_alignedByTrying 1 = .ok (.iload_n 1, 1) := by decide +kernel
theorem dL_alignedByTrying_2 : decode cL_alignedByTrying 2 = .ok (.invokevirtual 43, 3) := by decide +kernel
theorem dL_alignedByTrying_5 : decode cL_alignedByTrying 5 = .ok (.ireturn, 1) := by decide +kernel
theorem dL_alignedByTrying_6 : decode cL_alignedByTrying 6 = .ok (.astore_n 2, 1) := by decide +kernel
theorem dL_alignedByTrying_7 : decode cL_alignedByTrying 7 = .ok (.sipush (-1001), 3) := by decide +kernel
theorem dL_alignedByTrying_10 : decode cL_alignedByTrying 10 = .ok (.ireturn, 1) := by decide +kernel
set_option maxRecDepth 20000 in
theorem ggL_partner_X1_partner : GoodIn wsL_partner wsX1_partner := goodIn_ca (goodIn_ca (goodIn_ca (goodIn_r _ [7, 8, 9, 10, 11, 12, 13, 6, 14, 15, 16, 17, 18, 19, 20, 21, 22, 23, 24, 25, 26, 27, 28, 29, 30, 31, 32, 33, 34, 35, 36, 37, 38, 39, 40, 41, 42, 43, 44, 45, 46, 47, 48, 49, 50, 51, 52, 53, 54] rfl (by decide +kernel)) (goodIn_sub (fun _ h => List.mem_cons_of_mem _ (List.mem_append_left _ (List.mem_append_left _ (List.mem_append_right _ h)))) (by decide +kernel))) (goodIn_sub (fun _ h => List.mem_cons_of_mem _ (List.mem_append_left _ (List.mem_append_right _ h))) (by decide +kernel))) (goodIn_sub (fun _ h => List.mem_cons_of_mem _ (List.mem_append_right _ h)) (by decide +kernel))
set_option maxRecDepth 20000 in
theorem gL_partner_X1_partner : GoodIn wsL_partner (wsV RL 46 RX1 yX1_partner wsX1_partner) := goodIn_app (goodIn_of _ (by decide +kernel)) ggL_partner_X1_partner
theorem dL_partner_0 : decode cL_partner 0 = .ok (.aload_n 0, 1) := by decide +kernel
theorem dL_partner_1 : decode cL_partner 1 = .ok (.iload_n 1, 1) := by decide +kernel
theorem dL_partner_2 : decode cL_partner 2 = .ok (.iload_n 2, 1) := by decide +kernel
theorem dL_partner_3 : decode cL_partner 3 = .ok (.invokevirtual 46, 3) := by decide +kernel
theorem dL_partner_6 : decode cL_partner 6 = .ok (.ireturn, 1) := by decide +kernel
theorem dL_partner_7 : decode cL_partner 7 = .ok (.astore_n 3, 1) := by decide +kernel
theorem dL_partner_8 : decode cL_partner 8 = .ok (.sipush (-1001), 3) := by decide +kernel
theorem dL_partner_11 : decode cL_partner 11 = .ok (.ireturn, 1) := by decide +kernel
theorem dL_partner_12 : decode cL_partner 12 = .ok (.astore_n 3, 1) := by decide +kernel
theorem dL_partner_13 : decode cL_partner 13 = .ok (.sipush (-1002), 3) := by decide +kernel
theorem dL_partner_16 : decode cL_partner 16 = .ok (.ireturn, 1) := by decide +kernel
set_option maxRecDepth 20000 in
theorem ggL_originMail_X1_originMail : GoodIn wsL_originMail wsX1_originMail := goodIn_ca (goodIn_ca (goodIn_r _ [6, 7, 8, 9, 5, 10, 11, 12, 13, 14, 15, 16, 17, 18, 19, 20, 21, 22, 23, 24, 25, 26, 27, 28, 29, 30, 31, 32, 33, 34, 35, 36, 37, 38, 39, 40, 41, 42, 43, 44, 45, 46, 47, 48, 49, 50, 51, 52, 53, 54, 55] rfl (by decide +kernel)) (goodIn_sub (fun _ h => List.mem_cons_of_mem _ (List.mem_append_left _ (List.mem_append_right _ h))) (by decide +kernel))) (goodIn_sub (fun _ h => List.mem_cons_of_mem _ (List.mem_append_right _ h)) (by decide +kernel))
set_option maxRecDepth 20000 in
theorem gL_originMail_X1_originMail : GoodIn wsL_originMail (wsV RL 49 RX1 yX1_originMail wsX1_originMail) := goodIn_app (goodIn_of _ (by decide +kernel)) ggL_originMail_X1_originMail
theorem dL_originMail_0 : decode cL_originMail 0 = .ok (.aload_n 0, 1) := by decide +kernel
theorem dL_originMail_1 : decode cL_originMail 1 = .ok (.iload_n 1, 1) := by decide +kernel
theorem dL_originMail_2 : decode cL_originMail 2 = .ok (.iload_n 2, 1) := by decide +kernel
theorem dL_originMail_3 : decode cL_originMail 3 = .ok (.invokevirtual 49, 3) := by decide +kernel
theorem dL_originMail_6 : decode cL_originMail 6 = .ok (.ireturn, 1) := by decide +kernel
theorem dL_originMail_7 : decode cL_originMail 7 = .ok (.astore_n 3, 1) := by decide +kernel
theorem dL_originMail_8 : decode cL_originMail 8 = .ok (.sipush (-1001), 3) := by decide +kernel
theorem dL_originMail_11 : decode cL_originMail 11 = .ok (.ireturn, 1) := by decide +kernel
set_option maxRecDepth 20000 in
theorem ggL_originLine_X1_originLine : GoodIn wsL_originLine wsX1_originLine := goodIn_ca (goodIn_ca (goodIn_r _ [6, 7, 8, 9, 5, 10, 11, 12, 13, 14, 15, 16, 17, 18, 19, 20, 21, 22, 23, 24, 25, 26, 27, 28, 29, 30, 31, 32, 33, 34, 35, 36, 37, 38, 39, 40, 41, 42, 43, 44, 45, 46, 47, 48, 49, 50, 51, 52, 53, 54, 55] rfl (by decide +kernel)) (goodIn_sub (fun _ h => List.mem_cons_of_mem _ (List.mem_append_left _ (List.mem_append_right _ h))) (by decide +kernel))) (goodIn_sub (fun _ h => List.mem_cons_of_mem _ (List.mem_append_right _ h)) (by decide +kernel))
set_option maxRecDepth 20000 in
theorem gL_originLine_X1_originLine : GoodIn wsL_originLine (wsV RL 52 RX1 yX1_originLine wsX1_originLine) := goodIn_app (goodIn_of _ (by decide +kernel)) ggL_originLine_X1_originLine
theorem dL_originLine_0 : decode cL_originLine 0 = .ok (.aload_n 0, 1) := by decide +kernel
theorem dL_originLine_1 : decode cL_originLine 1 = .ok (.iload_n 1, 1) := by decide +kernel
theorem dL_originLine_2 : decode cL_originLine 2 = .ok (.iload_n 2, 1) := by decide +kernel
theorem dL_originLine_3 : decode cL_originLine 3 = .ok (.invokevirtual 52, 3) := by decide +kernel
theorem dL_originLine_6 : decode cL_originLine 6 = .ok (.ireturn, 1) := by decide +kernel
theorem dL_originLine_7 : decode cL_originLine 7 = .ok (.astore_n 3, 1) := by decide +kernel
theorem dL_originLine_8 : decode cL_originLine 8 = .ok (.sipush (-1001), 3) := by decide +kernel
theorem dL_originLine_11 : decode cL_originLine 11 = .ok (.ireturn, 1) := by decide +kernel
set_option maxRecDepth 20000 in
theorem ggL_kind_X1_kind : GoodIn wsL_kind wsX1_kind := goodIn_ca (goodIn_ca (goodIn_r _ [6, 7, 8, 9, 5, 10, 11, 12, 13, 14, 15, 16, 17, 18, 19, 20, 21, 22, 23, 24, 25, 26, 27, 28, 29, 30, 31, 32, 33, 34, 35, 36, 37, 38, 39, 40, 41, 42, 43, 44, 45, 46, 47, 48, 49, 50, 51, 52, 53, 54, 55, 56, 57, 58, 59, 60, 61, 62, 63, 64, 65, 66, 67, 68, 69, 70, 71, 72, 73, 74, 75, 76, 77, 78, 79, 80, 81, 82, 83, 84, 85, 86, 87, 88, 89, 90, 91, 92, 93, 94, 95] rfl (by decide +kernel)) (goodIn_sub (fun _ h => List.mem_cons_of_mem _ (List.mem_append_left _ (List.mem_append_right _ h))) (by decide +kernel))) (goodIn_sub (fun _ h => List.mem_cons_of_mem _ (List.mem_append_right _ h)) (by decide +kernel))
set_option maxRecDepth 20000 in
theorem gL_kind_X1_kind : GoodIn wsL_kind (wsV RL 55 RX1 yX1_kind wsX1_kind) := goodIn_app (goodIn_of _ (by decide +kernel)) ggL_kind_X1_kind
theorem dL_kind_0 : decode cL_kind 0 = .ok (.aload_n 0, 1) := by decide +kernel
theorem dL_kind_1 : decode cL_kind 1 = .ok (.iload_n 1, 1) := by decide +kernel
theorem dL_kind_2 : decode cL_kind 2 = .ok (.iload_n 2, 1) := by decide +kernel
theorem dL_kind_3 : decode cL_kind 3 = .ok (.invokevirtual 55, 3) := by decide +kernel
theorem dL_kind_6 : decode cL_kind 6 = .ok (.ireturn, 1) := by decide +kernel
theorem dL_kind_7 : decode cL_kind 7 = .ok (.astore_n 3, 1) := by decide +kernel
theorem dL_kind_8 : decode cL_kind 8 = .ok (.sipush (-1001), 3) := by decide +kernel
theorem dL_kind_11 : decode cL_kind 11 = .ok (.ireturn, 1) := by decide +kernel
set_option maxRecDepth 20000 in
theorem ggL_signature_X1_signature : GoodIn wsL_signature wsX1_signature := goodIn_ca (goodIn_ca (goodIn_r _ [6, 7, 8, 9, 5, 10, 11, 12, 13, 14, 15, 16, 17, 18, 19, 20, 21, 22, 23, 24, 25, 26, 27, 28, 29, 30, 31, 32, 33, 34, 35, 36, 37, 38, 39, 40, 41, 42, 43, 44, 45, 46, 47, 48, 49, 50] rfl (by decide +kernel)) (goodIn_sub (fun _ h => List.mem_cons_of_mem _ (List.mem_append_left _ (List.mem_append_right _ h))) (by decide +kernel))) (goodIn_sub (fun _ h => List.mem_cons_of_mem _ (List.mem_append_right _ h)) (by decide +kernel))
set_option maxRecDepth 20000 in
theorem gL_signature_X1_signature : GoodIn wsL_signature (wsV RL 59 RX1 yX1_signature wsX1_signature) := goodIn_app (goodIn_of _ (by decide +kernel)) ggL_signature_X1_signature
theorem dL_signature_0 : decode cL_signature 0 = .ok (.aload_n 0, 1) := by decide +kernel
theorem dL_signature_1 : decode cL_signature 1 = .ok (.iload_n 1, 1) := by decide +kernel
theorem dL_signature_2 : decode cL_signature 2 = .ok (.invokevirtual 59, 3) := by decide +kernel
theorem dL_signature_5 : decode cL_signature 5 = .ok (.ireturn, 1) := by decide +kernel
theorem dL_signature_6 : decode cL_signature 6 = .ok (.astore_n 2, 1) := by decide +kernel
theorem dL_signature_7 : decode cL_signature 7 = .ok (.sipush (-1001), 3) := by decide +kernel
theorem dL_signature_10 : decode cL_signature 10 = .ok (.ireturn, 1) := by decide +kernel
set_option maxRecDepth 20000 in
theorem ggL_answersMail_X1_answersMail : GoodIn wsL_answersMail wsX1_answersMail := goodIn_ca (goodIn_ca (goodIn_ca (goodIn_ca (goodIn_r _ [8, 9, 10, 11, 7, 12, 13, 14, 15, 16, 17, 18, 19, 20, 21, 22, 23, 24, 25, 26, 27, 28, 29, 30, 31, 32, 33, 34, 35, 36, 37, 38, 39, 40, 41, 42, 43, 44, 45, 46, 47, 48, 49, 50, 51, 52, 53, 54, 55, 56, 57, 58, 59, 60, 61, 62, 63, 64, 65, 66, 67, 68, 69, 70, 71, 72, 73, 74, 75, 76, 77, 78, 79, 80, 81, 82, 83, 84, 85, 86, 87, 88, 89, 90, 91, 92, 93, 94, 95, 96, 97, 98, 99, 100, 101, 102, 103, 104, 105, 106, 107, 108, 109, 110, 111, 112, 113, 114, 115, 116, 117] rfl (by decide +kernel)) (goodIn_sub (fun _ h => List.mem_cons_of_mem _ (List.mem_append_left _ (List.mem_append_left _ (List.mem_append_left _ (List.mem_append_right _ h))))) (by decide +kernel))) (goodIn_sub (fun _ h => List.mem_cons_of_mem _ (List.mem_append_left _ (List.mem_append_left _ (List.mem_append_right _ h)))) (by decide +kernel))) (goodIn_sub (fun _ h => List.mem_cons_of_mem _ (List.mem_append_left _ (List.mem_append_right _ h))) (by decide +kernel))) (goodIn_sub (fun _ h => List.mem_cons_of_mem _ (List.mem_append_right _ h)) (by decide +kernel))
set_option maxRecDepth 20000 in
theorem gL_answersMail_X1_answersMail : GoodIn wsL_answersMail (wsV RL 62 RX1 yX1_answersMail wsX1_answersMail) := goodIn_app (goodIn_of _ (by decide +kernel)) ggL_answersMail_X1_answersMail
theorem dL_answersMail_0 : decode cL_answersMail 0 = .ok (.aload_n 0, 1) := by decide +kernel
theorem dL_answersMail_1 : decode cL_answersMail 1 = .ok (.iload_n 1, 1) := by decide +kernel
theorem dL_answersMail_2 : decode cL_answersMail 2 = .ok (.iload_n 2, 1) := by decide +kernel
theorem dL_answersMail_3 : decode cL_answersMail 3 = .ok (.invokevirtual 62, 3) := by decide +kernel
theorem dL_answersMail_6 : decode cL_answersMail 6 = .ok (.ireturn, 1) := by decide +kernel
theorem dL_answersMail_7 : decode cL_answersMail 7 = .ok (.astore_n 3, 1) := by decide +kernel
theorem dL_answersMail_8 : decode cL_answersMail 8 = .ok (.sipush (-1001), 3) := by decide +kernel
theorem dL_answersMail_11 : decode cL_answersMail 11 = .ok (.ireturn, 1) := by decide +kernel
theorem dL_answersMail_12 : decode cL_answersMail 12 = .ok (.astore_n 3, 1) := by decide +kernel
theorem dL_answersMail_13 : decode cL_answersMail 13 = .ok (.sipush (-1002), 3) := by decide +kernel
theorem dL_answersMail_16 : decode cL_answersMail 16 = .ok (.ireturn, 1) := by decide +kernel
theorem dL_answersMail_17 : decode cL_answersMail 17 = .ok (.astore_n 3, 1) := by decide +kernel
theorem dL_answersMail_18 : decode cL_answersMail 18 = .ok (.sipush (-1003), 3) := by decide +kernel
theorem dL_answersMail_21 : decode cL_answersMail 21 = .ok (.ireturn, 1) := by decide +kernel
set_option maxRecDepth 20000 in
theorem ggL_answersLine_X1_answersLine : GoodIn wsL_answersLine wsX1_answersLine := goodIn_ca (goodIn_ca (goodIn_ca (goodIn_ca (goodIn_r _ [8, 9, 10, 11, 7, 12, 13, 14, 15, 16, 17, 18, 19, 20, 21, 22, 23, 24, 25, 26, 27, 28, 29, 30, 31, 32, 33, 34, 35, 36, 37, 38, 39, 40, 41, 42, 43, 44, 45, 46, 47, 48, 49, 50, 51, 52, 53, 54, 55, 56, 57, 58, 59, 60, 61, 62, 63, 64, 65, 66, 67, 68, 69, 70, 71, 72, 73, 74, 75, 76, 77, 78, 79, 80, 81, 82, 83, 84, 85, 86, 87, 88, 89, 90, 91, 92, 93, 94, 95, 96, 97, 98, 99, 100, 101, 102, 103, 104, 105, 106, 107, 108, 109, 110, 111, 112, 113, 114, 115, 116, 117] rfl (by decide +kernel)) (goodIn_sub (fun _ h => List.mem_cons_of_mem _ (List.mem_append_left _ (List.mem_append_left _ (List.mem_append_left _ (List.mem_append_right _ h))))) (by decide +kernel))) (goodIn_sub (fun _ h => List.mem_cons_of_mem _ (List.mem_append_left _ (List.mem_append_left _ (List.mem_append_right _ h)))) (by decide +kernel))) (goodIn_sub (fun _ h => List.mem_cons_of_mem _ (List.mem_append_left _ (List.mem_append_right _ h))) (by decide +kernel))) (goodIn_sub (fun _ h => List.mem_cons_of_mem _ (List.mem_append_right _ h)) (by decide +kernel))
set_option maxRecDepth 20000 in
theorem gL_answersLine_X1_answersLine : GoodIn wsL_answersLine (wsV RL 67 RX1 yX1_answersLine wsX1_answersLine) := goodIn_app (goodIn_of _ (by decide +kernel)) ggL_answersLine_X1_answersLine
theorem dL_answersLine_0 : decode cL_answersLine 0 = .ok (.aload_n 0, 1) := by decide +kernel
theorem dL_answersLine_1 : decode cL_answersLine 1 = .ok (.iload_n 1, 1) := by decide +kernel
theorem dL_answersLine_2 : decode cL_answersLine 2 = .ok (.iload_n 2, 1) := by decide +kernel
theorem dL_answersLine_3 : decode cL_answersLine 3 = .ok (.invokevirtual 67, 3) := by decide +kernel
theorem dL_answersLine_6 : decode cL_answersLine 6 = .ok (.ireturn, 1) := by decide +kernel
theorem dL_answersLine_7 : decode cL_answersLine 7 = .ok (.astore_n 3, 1) := by decide +kernel
theorem dL_answersLine_8 : decode cL_answersLine 8 = .ok (.sipush (-1001), 3) := by decide +kernel
theorem dL_answersLine_11 : decode cL_answersLine 11 = .ok (.ireturn, 1) := by decide +kernel
theorem dL_answersLine_12 : decode cL_answersLine 12 = .ok (.astore_n 3, 1) := by decide +kernel
theorem dL_answersLine_13 : decode cL_answersLine 13 = .ok (.sipush (-1002), 3) := by decide +kernel
theorem dL_answersLine_16 : decode cL_answersLine 16 = .ok (.ireturn, 1) := by decide +kernel
theorem dL_answersLine_17 : decode cL_answersLine 17 = .ok (.astore_n 3, 1) := by decide +kernel
theorem dL_answersLine_18 : decode cL_answersLine 18 = .ok (.sipush (-1003), 3) := by decide +kernel
theorem dL_answersLine_21 : decode cL_answersLine 21 = .ok (.ireturn, 1) := by decide +kernel
set_option maxRecDepth 20000 in
theorem ggL_answers_X1_answers : GoodIn wsL_answers wsX1_answers := goodIn_ca (goodIn_ca (goodIn_r _ [6, 7, 8, 9, 5, 10, 11, 12, 13, 14, 15, 16, 17, 18, 19, 20, 21, 22, 23, 24, 25, 26, 27, 28, 29, 30, 31, 32, 33, 34, 35, 36, 37, 38, 39, 40, 41, 42, 43, 44, 45, 46, 47, 48, 49, 50, 51, 52, 53, 54, 55, 56, 57, 58, 59, 60, 61, 62, 63, 64, 65, 66, 67, 68, 69, 70, 71, 72, 73, 74, 75, 76, 77, 78, 79, 80, 81, 82, 83, 84, 85, 86, 87, 88, 89, 90, 91, 92, 93, 94, 95, 96, 97, 98, 99, 100, 101, 102, 103, 104, 105, 106, 107] rfl (by decide +kernel)) (goodIn_sub (fun _ h => List.mem_cons_of_mem _ (List.mem_append_left _ (List.mem_append_right _ h))) (by decide +kernel))) (goodIn_sub (fun _ h => List.mem_cons_of_mem _ (List.mem_append_right _ h)) (by decide +kernel))
set_option maxRecDepth 20000 in
theorem gL_answers_X1_answers : GoodIn wsL_answers (wsV RL 70 RX1 yX1_answers wsX1_answers) := goodIn_app (goodIn_of _ (by decide +kernel)) ggL_answers_X1_answers
theorem dL_answers_0 : decode cL_answers 0 = .ok (.aload_n 0, 1) := by decide +kernel
theorem dL_answers_1 : decode cL_answers 1 = .ok (.iload_n 1, 1) := by decide +kernel
theorem dL_answers_2 : decode cL_answers 2 = .ok (.iload_n 2, 1) := by decide +kernel
theorem dL_answers_3 : decode cL_answers 3 = .ok (.invokevirtual 70, 3) := by decide +kernel
theorem dL_answers_6 : decode cL_answers 6 = .ok (.ireturn, 1) := by decide +kernel
theorem dL_answers_7 : decode cL_answers 7 = .ok (.astore_n 3, 1) := by decide +kernel
theorem dL_answers_8 : decode cL_answers 8 = .ok (.sipush (-1001), 3) := by decide +kernel
theorem dL_answers_11 : decode cL_answers 11 = .ok (.ireturn, 1) := by decide +kernel
set_option maxRecDepth 20000 in
theorem ggL_copies_X1_copies : GoodIn wsL_copies wsX1_copies := goodIn_ca (goodIn_ca (goodIn_ca (goodIn_r _ [7, 8, 9, 10, 11, 12, 6, 13, 14, 15, 16, 17, 18, 19, 20, 21, 22, 23, 24, 25, 26, 27, 28, 29, 30, 31, 32, 33, 34, 35, 36, 37, 38, 39, 40, 41, 42, 43, 44, 45, 46, 47, 48, 49, 50, 51, 52, 53, 54, 55, 56, 57, 58, 59, 60, 61, 62, 63, 64, 65, 66, 67, 68, 69, 70, 71, 72, 73, 74, 75, 76, 77, 78, 79, 80, 81, 82, 83, 84, 85, 86, 87, 88, 89, 90, 91, 92, 93, 94, 95, 96, 97, 98, 99, 100, 101, 102, 103, 104, 105, 106] rfl (by decide +kernel)) (goodIn_sub (fun _ h => List.mem_cons_of_mem _ (List.mem_append_left _ (List.mem_append_left _ (List.mem_append_right _ h)))) (by decide +kernel))) (goodIn_sub (fun _ h => List.mem_cons_of_mem _ (List.mem_append_left _ (List.mem_append_right _ h))) (by decide +kernel))) (goodIn_sub (fun _ h => List.mem_cons_of_mem _ (List.mem_append_right _ h)) (by decide +kernel))
set_option maxRecDepth 20000 in
theorem gL_copies_X1_copies : GoodIn wsL_copies (wsV RL 73 RX1 yX1_copies wsX1_copies) := goodIn_app (goodIn_of _ (by decide +kernel)) ggL_copies_X1_copies
theorem dL_copies_0 : decode cL_copies 0 = .ok (.aload_n 0, 1) := by decide +kernel
theorem dL_copies_1 : decode cL_copies 1 = .ok (.iload_n 1, 1) := by decide +kernel
theorem dL_copies_2 : decode cL_copies 2 = .ok (.iload_n 2, 1) := by decide +kernel
theorem dL_copies_3 : decode cL_copies 3 = .ok (.invokevirtual 73, 3) := by decide +kernel
theorem dL_copies_6 : decode cL_copies 6 = .ok (.ireturn, 1) := by decide +kernel
theorem dL_copies_7 : decode cL_copies 7 = .ok (.astore_n 3, 1) := by decide +kernel
theorem dL_copies_8 : decode cL_copies 8 = .ok (.sipush (-1001), 3) := by decide +kernel
theorem dL_copies_11 : decode cL_copies 11 = .ok (.ireturn, 1) := by decide +kernel
theorem dL_copies_12 : decode cL_copies 12 = .ok (.astore_n 3, 1) := by decide +kernel
theorem dL_copies_13 : decode cL_copies 13 = .ok (.sipush (-1002), 3) := by decide +kernel
theorem dL_copies_16 : decode cL_copies 16 = .ok (.ireturn, 1) := by decide +kernel
set_option maxRecDepth 20000 in
theorem ggL_root_X1_root : GoodIn wsL_root wsX1_root := goodIn_ca (goodIn_ca (goodIn_r _ [6, 7, 8, 9, 5, 10, 11, 12, 13, 14, 15, 16, 17, 18, 19, 20, 21, 22, 23, 24, 25, 26, 27, 28, 29, 30, 31, 32, 33, 34, 35, 36, 37, 38, 39, 40, 41, 42, 43, 44, 45, 46, 47] rfl (by decide +kernel)) (goodIn_sub (fun _ h => List.mem_cons_of_mem _ (List.mem_append_left _ (List.mem_append_right _ h))) (by decide +kernel))) (goodIn_sub (fun _ h => List.mem_cons_of_mem _ (List.mem_append_right _ h)) (by decide +kernel))
set_option maxRecDepth 20000 in
theorem gL_root_X1_root : GoodIn wsL_root (wsV RL 76 RX1 yX1_root wsX1_root) := goodIn_app (goodIn_of _ (by decide +kernel)) ggL_root_X1_root
theorem dL_root_0 : decode cL_root 0 = .ok (.aload_n 0, 1) := by decide +kernel
theorem dL_root_1 : decode cL_root 1 = .ok (.iload_n 1, 1) := by decide +kernel
theorem dL_root_2 : decode cL_root 2 = .ok (.invokevirtual 76, 3) := by decide +kernel
theorem dL_root_5 : decode cL_root 5 = .ok (.ireturn, 1) := by decide +kernel
theorem dL_root_6 : decode cL_root 6 = .ok (.astore_n 2, 1) := by decide +kernel
theorem dL_root_7 : decode cL_root 7 = .ok (.sipush (-1001), 3) := by decide +kernel
theorem dL_root_10 : decode cL_root 10 = .ok (.ireturn, 1) := by decide +kernel
set_option maxRecDepth 20000 in
theorem ggL_rootByRounds_X1_rootByRounds : GoodIn wsL_rootByRounds wsX1_rootByRounds := goodIn_ca (goodIn_ca (goodIn_r _ [6, 7, 8, 9, 10, 11, 5, 12, 13, 14, 15, 16, 17, 18, 19, 20, 21, 22, 23, 24, 25, 26, 27, 28, 29, 30, 31, 32, 33, 34, 35, 36, 37, 38, 39, 40, 41, 42, 43, 44, 45, 46, 47, 48] rfl (by decide +kernel)) (goodIn_sub (fun _ h => List.mem_cons_of_mem _ (List.mem_append_left _ (List.mem_append_right _ h))) (by decide +kernel))) (goodIn_sub (fun _ h => List.mem_cons_of_mem _ (List.mem_append_right _ h)) (by decide +kernel))
set_option maxRecDepth 20000 in
theorem gL_rootByRounds_X1_rootByRounds : GoodIn wsL_rootByRounds (wsV RL 79 RX1 yX1_rootByRounds wsX1_rootByRounds) := goodIn_app (goodIn_of _ (by decide +kernel)) ggL_rootByRounds_X1_rootByRounds
theorem dL_rootByRounds_0 : decode cL_rootByRounds 0 = .ok (.aload_n 0, 1) := by decide +kernel
theorem dL_rootByRounds_1 : decode cL_rootByRounds 1 = .ok (.iload_n 1, 1) := by decide +kernel
theorem dL_rootByRounds_2 : decode cL_rootByRounds 2 = .ok (.invokevirtual 79, 3) := by decide +kernel
theorem dL_rootByRounds_5 : decode cL_rootByRounds 5 = .ok (.ireturn, 1) := by decide +kernel
theorem dL_rootByRounds_6 : decode cL_rootByRounds 6 = .ok (.astore_n 2, 1) := by decide +kernel
theorem dL_rootByRounds_7 : decode cL_rootByRounds 7 = .ok (.sipush (-1001), 3) := by decide +kernel
theorem dL_rootByRounds_10 : decode cL_rootByRounds 10 = .ok (.ireturn, 1) := by decide +kernel
set_option maxRecDepth 20000 in
theorem ggL_size_X1_size : GoodIn wsL_size wsX1_size := goodIn_ca (goodIn_ca (goodIn_r _ [6, 7, 8, 9, 10, 5, 11, 12, 13, 14, 15, 16, 17, 18, 19, 20, 21, 22, 23, 24, 25, 26, 27, 28, 29, 30, 31, 32, 33, 34, 35, 36, 37, 38, 39, 40, 41, 42, 43, 44, 45, 46, 47] rfl (by decide +kernel)) (goodIn_sub (fun _ h => List.mem_cons_of_mem _ (List.mem_append_left _ (List.mem_append_right _ h))) (by decide +kernel))) (goodIn_sub (fun _ h => List.mem_cons_of_mem _ (List.mem_append_right _ h)) (by decide +kernel))
set_option maxRecDepth 20000 in
theorem gL_size_X1_size : GoodIn wsL_size (wsV RL 82 RX1 yX1_size wsX1_size) := goodIn_app (goodIn_of _ (by decide +kernel)) ggL_size_X1_size
theorem dL_size_0 : decode cL_size 0 = .ok (.aload_n 0, 1) := by decide +kernel
theorem dL_size_1 : decode cL_size 1 = .ok (.iload_n 1, 1) := by decide +kernel
theorem dL_size_2 : decode cL_size 2 = .ok (.invokevirtual 82, 3) := by decide +kernel
theorem dL_size_5 : decode cL_size 5 = .ok (.ireturn, 1) := by decide +kernel
theorem dL_size_6 : decode cL_size 6 = .ok (.astore_n 2, 1) := by decide +kernel
theorem dL_size_7 : decode cL_size 7 = .ok (.sipush (-1001), 3) := by decide +kernel
theorem dL_size_10 : decode cL_size 10 = .ok (.ireturn, 1) := by decide +kernel
