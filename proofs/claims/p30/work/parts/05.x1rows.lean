set_option maxRecDepth 20000 in
theorem ggX1_init_X0_init : GoodIn wsX1_init wsX0_init := goodIn_r _ [23, 24, 2, 3, 5, 25, 26, 27, 28, 41, 42, 43] rfl (by decide +kernel)
set_option maxRecDepth 20000 in
theorem gX1_init_X0_init : GoodIn wsX1_init (wsX0_init) := ggX1_init_X0_init
theorem dX1_init_0 : decode cX1_init 0 = .ok (.aload_n 0, 1) := by decide +kernel
theorem dX1_init_1 : decode cX1_init 1 = .ok (.invokespecial 3, 3) := by decide +kernel
theorem dX1_init_4 : decode cX1_init 4 = .ok (.aload_n 0, 1) := by decide +kernel
theorem dX1_init_5 : decode cX1_init 5 = .ok (.iconst 0, 1) := by decide +kernel
theorem dX1_init_6 : decode cX1_init 6 = .ok (.putfield 9, 3) := by decide +kernel
theorem dX1_init_9 : decode cX1_init 9 = .ok (.aload_n 0, 1) := by decide +kernel
theorem dX1_init_10 : decode cX1_init 10 = .ok (.bipush 10, 2) := by decide +kernel
theorem dX1_init_12 : decode cX1_init 12 = .ok (.newarray .int, 2) := by decide +kernel
theorem dX1_init_14 : decode cX1_init 14 = .ok (.putfield 13, 3) := by decide +kernel
theorem dX1_init_17 : decode cX1_init 17 = .ok (.aload_n 0, 1) := by decide +kernel
theorem dX1_init_18 : decode cX1_init 18 = .ok (.bipush 10, 2) := by decide +kernel
theorem dX1_init_20 : decode cX1_init 20 = .ok (.newarray .int, 2) := by decide +kernel
theorem dX1_init_22 : decode cX1_init 22 = .ok (.putfield 17, 3) := by decide +kernel
theorem dX1_init_25 : decode cX1_init 25 = .ok (.aload_n 0, 1) := by decide +kernel
theorem dX1_init_26 : decode cX1_init 26 = .ok (.bipush 10, 2) := by decide +kernel
theorem dX1_init_28 : decode cX1_init 28 = .ok (.newarray .int, 2) := by decide +kernel
theorem dX1_init_30 : decode cX1_init 30 = .ok (.putfield 20, 3) := by decide +kernel
theorem dX1_init_33 : decode cX1_init 33 = .ok (.aload_n 0, 1) := by decide +kernel
theorem dX1_init_34 : decode cX1_init 34 = .ok (.bipush 10, 2) := by decide +kernel
theorem dX1_init_36 : decode cX1_init 36 = .ok (.newarray .int, 2) := by decide +kernel
theorem dX1_init_38 : decode cX1_init 38 = .ok (.putfield 23, 3) := by decide +kernel
theorem dX1_init_41 : decode cX1_init 41 = .ok (.aload_n 0, 1) := by decide +kernel
theorem dX1_init_42 : decode cX1_init 42 = .ok (.bipush 10, 2) := by decide +kernel
theorem dX1_init_44 : decode cX1_init 44 = .ok (.newarray .int, 2) := by decide +kernel
theorem dX1_init_46 : decode cX1_init 46 = .ok (.putfield 26, 3) := by decide +kernel
theorem dX1_init_49 : decode cX1_init 49 = .ok (.aload_n 0, 1) := by decide +kernel
theorem dX1_init_50 : decode cX1_init 50 = .ok (.bipush 80, 2) := by decide +kernel
theorem dX1_init_52 : decode cX1_init 52 = .ok (.newarray .int, 2) := by decide +kernel
theorem dX1_init_54 : decode cX1_init 54 = .ok (.putfield 29, 3) := by decide +kernel
theorem dX1_init_57 : decode cX1_init 57 = .ok (.aload_n 0, 1) := by decide +kernel
theorem dX1_init_58 : decode cX1_init 58 = .ok (.bipush 80, 2) := by decide +kernel
theorem dX1_init_60 : decode cX1_init 60 = .ok (.newarray .int, 2) := by decide +kernel
theorem dX1_init_62 : decode cX1_init 62 = .ok (.putfield 32, 3) := by decide +kernel
theorem dX1_init_65 : decode cX1_init 65 = .ok (.aload_n 0, 1) := by decide +kernel
theorem dX1_init_66 : decode cX1_init 66 = .ok (.bipush 80, 2) := by decide +kernel
theorem dX1_init_68 : decode cX1_init 68 = .ok (.newarray .int, 2) := by decide +kernel
theorem dX1_init_70 : decode cX1_init 70 = .ok (.putfield 35, 3) := by decide +kernel
theorem dX1_init_73 : decode cX1_init 73 = .ok (.iconst 0, 1) := by decide +kernel
theorem dX1_init_74 : decode cX1_init 74 = .ok (.istore_n 1, 1) := by decide +kernel
theorem dX1_init_75 : decode cX1_init 75 = .ok (.iload_n 1, 1) := by decide +kernel
theorem dX1_init_76 : decode cX1_init 76 = .ok (.bipush 80, 2) := by decide +kernel
theorem dX1_init_78 : decode cX1_init 78 = .ok (.if_icmp .ge 16, 3) := by decide +kernel
theorem dX1_init_81 : decode cX1_init 81 = .ok (.aload_n 0, 1) := by decide +kernel
theorem dX1_init_82 : decode cX1_init 82 = .ok (.getfield 35, 3) := by decide +kernel
theorem dX1_init_85 : decode cX1_init 85 = .ok (.iload_n 1, 1) := by decide +kernel
theorem dX1_init_86 : decode cX1_init 86 = .ok (.iconst (-1), 1) := by decide +kernel
theorem dX1_init_87 : decode cX1_init 87 = .ok (.iastore, 1) := by decide +kernel
theorem dX1_init_88 : decode cX1_init 88 = .ok (.iinc 1 1, 3) := by decide +kernel
theorem dX1_init_91 : decode cX1_init 91 = .ok (.goto (-16), 3) := by decide +kernel
theorem dX1_init_94 : decode cX1_init 94 = .ok (.aload_n 0, 1) := by decide +kernel
theorem dX1_init_95 : decode cX1_init 95 = .ok (.new 38, 3) := by decide +kernel
theorem dX1_init_98 : decode cX1_init 98 = .ok (.dup, 1) := by decide +kernel
theorem dX1_init_99 : decode cX1_init 99 = .ok (.invokespecial 40, 3) := by decide +kernel
theorem dX1_init_102 : decode cX1_init 102 = .ok (.putfield 41, 3) := by decide +kernel
theorem dX1_init_105 : decode cX1_init 105 = .ok (.aload_n 0, 1) := by decide +kernel
theorem dX1_init_106 : decode cX1_init 106 = .ok (.bipush 80, 2) := by decide +kernel
theorem dX1_init_108 : decode cX1_init 108 = .ok (.newarray .boolean, 2) := by decide +kernel
theorem dX1_init_110 : decode cX1_init 110 = .ok (.putfield 45, 3) := by decide +kernel
theorem dX1_init_113 : decode cX1_init 113 = .ok (.aload_n 0, 1) := by decide +kernel
theorem dX1_init_114 : decode cX1_init 114 = .ok (.bipush 10, 2) := by decide +kernel
theorem dX1_init_116 : decode cX1_init 116 = .ok (.newarray .int, 2) := by decide +kernel
theorem dX1_init_118 : decode cX1_init 118 = .ok (.putfield 49, 3) := by decide +kernel
theorem dX1_init_121 : decode cX1_init 121 = .ok (.return_, 1) := by decide +kernel
set_option maxRecDepth 20000 in
theorem ggX1_arrive_X1_isWithin : GoodIn wsX1_arrive wsX1_isWithin := goodIn_r _ [13] rfl (by decide +kernel)
set_option maxRecDepth 20000 in
theorem gX1_arrive_X1_isWithin : GoodIn wsX1_arrive (va_wsS RX1 52 yX1_isWithin wsX1_isWithin) := goodIn_app (goodIn_of _ (by decide +kernel)) ggX1_arrive_X1_isWithin
set_option maxRecDepth 20000 in
theorem ggX1_arrive_X1_mailOfDate : GoodIn wsX1_arrive wsX1_mailOfDate := goodIn_ca (goodIn_r _ [17, 5, 6, 18, 19, 20, 21, 22, 23, 24, 25, 26, 27, 28, 29] rfl (by decide +kernel)) (goodIn_sub (fun _ h => List.mem_cons_of_mem _ (List.mem_append_right _ h)) (by decide +kernel))
set_option maxRecDepth 20000 in
theorem gX1_arrive_X1_mailOfDate : GoodIn wsX1_arrive (wsV RX1 63 RX1 yX1_mailOfDate wsX1_mailOfDate) := goodIn_app (goodIn_of _ (by decide +kernel)) ggX1_arrive_X1_mailOfDate
theorem dX1_arrive_0 : decode cX1_arrive 0 = .ok (.iload_n 1, 1) := by decide +kernel
theorem dX1_arrive_1 : decode cX1_arrive 1 = .ok (.iconst 1, 1) := by decide +kernel
theorem dX1_arrive_2 : decode cX1_arrive 2 = .ok (.bipush 99, 2) := by decide +kernel
theorem dX1_arrive_4 : decode cX1_arrive 4 = .ok (.invokestatic 52, 3) := by decide +kernel
theorem dX1_arrive_7 : decode cX1_arrive 7 = .ok (.ifCond .eq 34, 3) := by decide +kernel
theorem dX1_arrive_10 : decode cX1_arrive 10 = .ok (.iload_n 2, 1) := by decide +kernel
theorem dX1_arrive_11 : decode cX1_arrive 11 = .ok (.iconst 0, 1) := by decide +kernel
theorem dX1_arrive_12 : decode cX1_arrive 12 = .ok (.iconst 5, 1) := by decide +kernel
theorem dX1_arrive_13 : decode cX1_arrive 13 = .ok (.invokestatic 52, 3) := by decide +kernel
theorem dX1_arrive_16 : decode cX1_arrive 16 = .ok (.ifCond .eq 25, 3) := by decide +kernel
theorem dX1_arrive_19 : decode cX1_arrive 19 = .ok (.iload_n 3, 1) := by decide +kernel
theorem dX1_arrive_20 : decode cX1_arrive 20 = .ok (.iconst 0, 1) := by decide +kernel
theorem dX1_arrive_21 : decode cX1_arrive 21 = .ok (.bipush 9, 2) := by decide +kernel
theorem dX1_arrive_23 : decode cX1_arrive 23 = .ok (.invokestatic 52, 3) := by decide +kernel
theorem dX1_arrive_26 : decode cX1_arrive 26 = .ok (.ifCond .eq 15, 3) := by decide +kernel
theorem dX1_arrive_29 : decode cX1_arrive 29 = .ok (.iload 4, 2) := by decide +kernel
theorem dX1_arrive_31 : decode cX1_arrive 31 = .ok (.iconst 0, 1) := by decide +kernel
theorem dX1_arrive_32 : decode cX1_arrive 32 = .ok (.iload_n 1, 1) := by decide +kernel
theorem dX1_arrive_33 : decode cX1_arrive 33 = .ok (.iconst 1, 1) := by decide +kernel
theorem dX1_arrive_34 : decode cX1_arrive 34 = .ok (.isub, 1) := by decide +kernel
theorem dX1_arrive_35 : decode cX1_arrive 35 = .ok (.invokestatic 52, 3) := by decide +kernel
theorem dX1_arrive_38 : decode cX1_arrive 38 = .ok (.ifCond .ne 13, 3) := by decide +kernel
theorem dX1_arrive_41 : decode cX1_arrive 41 = .ok (.new 56, 3) := by decide +kernel
theorem dX1_arrive_44 : decode cX1_arrive 44 = .ok (.dup, 1) := by decide +kernel
theorem dX1_arrive_45 : decode cX1_arrive 45 = .ok (.ldc 58, 2) := by decide +kernel
theorem dX1_arrive_47 : decode cX1_arrive 47 = .ok (.invokespecial 60, 3) := by decide +kernel
theorem dX1_arrive_50 : decode cX1_arrive 50 = .ok (.athrow, 1) := by decide +kernel
theorem dX1_arrive_51 : decode cX1_arrive 51 = .ok (.aload_n 0, 1) := by decide +kernel
theorem dX1_arrive_52 : decode cX1_arrive 52 = .ok (.iload_n 1, 1) := by decide +kernel
theorem dX1_arrive_53 : decode cX1_arrive 53 = .ok (.invokevirtual 63, 3) := by decide +kernel
theorem dX1_arrive_56 : decode cX1_arrive 56 = .ok (.iconst (-1), 1) := by decide +kernel
theorem dX1_arrive_57 : decode cX1_arrive 57 = .ok (.if_icmp .eq 13, 3) := by decide +kernel
theorem dX1_arrive_60 : decode cX1_arrive 60 = .ok (.new 56, 3) := by decide +kernel
theorem dX1_arrive_63 : decode cX1_arrive 63 = .ok (.dup, 1) := by decide +kernel
theorem dX1_arrive_64 : decode cX1_arrive 64 = .ok (.ldc 67, 2) := by decide +kernel
theorem dX1_arrive_66 : decode cX1_arrive 66 = .ok (.invokespecial 60, 3) := by decide +kernel
theorem dX1_arrive_69 : decode cX1_arrive 69 = .ok (.athrow, 1) := by decide +kernel
theorem dX1_arrive_70 : decode cX1_arrive 70 = .ok (.aload_n 0, 1) := by decide +kernel
theorem dX1_arrive_71 : decode cX1_arrive 71 = .ok (.getfield 9, 3) := by decide +kernel
theorem dX1_arrive_74 : decode cX1_arrive 74 = .ok (.bipush 10, 2) := by decide +kernel
theorem dX1_arrive_76 : decode cX1_arrive 76 = .ok (.if_icmp .lt 13, 3) := by decide +kernel
theorem dX1_arrive_79 : decode cX1_arrive 79 = .ok (.new 69, 3) := by decide +kernel
theorem dX1_arrive_82 : decode cX1_arrive 82 = .ok (.dup, 1) := by decide +kernel
theorem dX1_arrive_83 : decode cX1_arrive 83 = .ok (.ldc 71, 2) := by decide +kernel
theorem dX1_arrive_85 : decode cX1_arrive 85 = .ok (.invokespecial 73, 3) := by decide +kernel
theorem dX1_arrive_88 : decode cX1_arrive 88 = .ok (.athrow, 1) := by decide +kernel
theorem dX1_arrive_89 : decode cX1_arrive 89 = .ok (.aload_n 0, 1) := by decide +kernel
theorem dX1_arrive_90 : decode cX1_arrive 90 = .ok (.getfield 9, 3) := by decide +kernel
theorem dX1_arrive_93 : decode cX1_arrive 93 = .ok (.istore 5, 2) := by decide +kernel
theorem dX1_arrive_95 : decode cX1_arrive 95 = .ok (.aload_n 0, 1) := by decide +kernel
theorem dX1_arrive_96 : decode cX1_arrive 96 = .ok (.getfield 13, 3) := by decide +kernel
theorem dX1_arrive_99 : decode cX1_arrive 99 = .ok (.iload 5, 2) := by decide +kernel
theorem dX1_arrive_101 : decode cX1_arrive 101 = .ok (.iload_n 1, 1) := by decide +kernel
theorem dX1_arrive_102 : decode cX1_arrive 102 = .ok (.iastore, 1) := by decide +kernel
theorem dX1_arrive_103 : decode cX1_arrive 103 = .ok (.aload_n 0, 1) := by decide +kernel
theorem dX1_arrive_104 : decode cX1_arrive 104 = .ok (.getfield 17, 3) := by decide +kernel
theorem dX1_arrive_107 : decode cX1_arrive 107 = .ok (.iload 5, 2) := by decide +kernel
theorem dX1_arrive_109 : decode cX1_arrive 109 = .ok (.iload_n 2, 1) := by decide +kernel
theorem dX1_arrive_110 : decode cX1_arrive 110 = .ok (.iastore, 1) := by decide +kernel
theorem dX1_arrive_111 : decode cX1_arrive 111 = .ok (.aload_n 0, 1) := by decide +kernel
theorem dX1_arrive_112 : decode cX1_arrive 112 = .ok (.getfield 20, 3) := by decide +kernel
theorem dX1_arrive_115 : decode cX1_arrive 115 = .ok (.iload 5, 2) := by decide +kernel
theorem dX1_arrive_117 : decode cX1_arrive 117 = .ok (.iload_n 3, 1) := by decide +kernel
theorem dX1_arrive_118 : decode cX1_arrive 118 = .ok (.iastore, 1) := by decide +kernel
theorem dX1_arrive_119 : decode cX1_arrive 119 = .ok (.aload_n 0, 1) := by decide +kernel
theorem dX1_arrive_120 : decode cX1_arrive 120 = .ok (.getfield 23, 3) := by decide +kernel
theorem dX1_arrive_123 : decode cX1_arrive 123 = .ok (.iload 5, 2) := by decide +kernel
theorem dX1_arrive_125 : decode cX1_arrive 125 = .ok (.iload 4, 2) := by decide +kernel
theorem dX1_arrive_127 : decode cX1_arrive 127 = .ok (.iastore, 1) := by decide +kernel
theorem dX1_arrive_128 : decode cX1_arrive 128 = .ok (.aload_n 0, 1) := by decide +kernel
theorem dX1_arrive_129 : decode cX1_arrive 129 = .ok (.dup, 1) := by decide +kernel
theorem dX1_arrive_130 : decode cX1_arrive 130 = .ok (.getfield 9, 3) := by decide +kernel
theorem dX1_arrive_133 : decode cX1_arrive 133 = .ok (.iconst 1, 1) := by decide +kernel
theorem dX1_arrive_134 : decode cX1_arrive 134 = .ok (.iadd, 1) := by decide +kernel
theorem dX1_arrive_135 : decode cX1_arrive 135 = .ok (.putfield 9, 3) := by decide +kernel
theorem dX1_arrive_138 : decode cX1_arrive 138 = .ok (.iload 5, 2) := by decide +kernel
theorem dX1_arrive_140 : decode cX1_arrive 140 = .ok (.ireturn, 1) := by decide +kernel
set_option maxRecDepth 20000 in
theorem ggX1_addLine_X1_requireMail : GoodIn wsX1_addLine wsX1_requireMail := goodIn_ca (goodIn_r _ [12, 13, 14, 15, 16, 17, 11, 18, 77, 78, 79, 80, 81, 82, 83, 84, 85, 86, 87, 88] rfl (by decide +kernel)) (goodIn_sub (fun _ h => List.mem_cons_of_mem _ (List.mem_append_right _ h)) (by decide +kernel))
set_option maxRecDepth 20000 in
theorem gX1_addLine_X1_requireMail : GoodIn wsX1_addLine (wsV RX1 74 RX1 yX1_requireMail wsX1_requireMail) := goodIn_app (goodIn_of _ (by decide +kernel)) ggX1_addLine_X1_requireMail
set_option maxRecDepth 20000 in
theorem ggX1_addLine_X1_isWithin : GoodIn wsX1_addLine wsX1_isWithin := goodIn_r _ [18] rfl (by decide +kernel)
set_option maxRecDepth 20000 in
theorem gX1_addLine_X1_isWithin : GoodIn wsX1_addLine (va_wsS RX1 52 yX1_isWithin wsX1_isWithin) := goodIn_app (goodIn_of _ (by decide +kernel)) ggX1_addLine_X1_isWithin
set_option maxRecDepth 20000 in
theorem ggX1_addLine_X1_placeOf : GoodIn wsX1_addLine wsX1_placeOf := goodIn_r _ [21] rfl (by decide +kernel)
set_option maxRecDepth 20000 in
theorem gX1_addLine_X1_placeOf : GoodIn wsX1_addLine (va_wsS RX1 80 yX1_placeOf wsX1_placeOf) := goodIn_app (goodIn_of _ (by decide +kernel)) ggX1_addLine_X1_placeOf
set_option maxRecDepth 20000 in
theorem ggX1_addLine_X1_realignAround : GoodIn wsX1_addLine wsX1_realignAround := goodIn_ca (goodIn_r _ [25, 15, 26, 27, 28, 11, 29, 30, 31, 32, 33, 34, 35, 36, 37, 38, 39, 40, 41, 42, 43, 44, 45, 5, 6, 7, 46, 47, 48, 49, 50, 51, 52, 19, 20, 21, 53, 54, 55, 56, 17, 18, 57, 58, 59, 60, 61, 62, 63, 64, 65, 66, 67, 68, 69, 70, 71, 72, 73, 74, 75, 76, 77, 78, 79, 80, 81, 82, 83, 84, 85, 86, 87, 88, 89, 90, 91] rfl (by decide +kernel)) (goodIn_sub (fun _ h => List.mem_cons_of_mem _ (List.mem_append_left _ (List.mem_append_left _ (List.mem_append_right _ h)))) (by decide +kernel))
set_option maxRecDepth 20000 in
theorem gX1_addLine_X1_realignAround : GoodIn wsX1_addLine (wsV RX1 84 RX1 yX1_realignAround wsX1_realignAround) := goodIn_app (goodIn_of _ (by decide +kernel)) ggX1_addLine_X1_realignAround
theorem dX1_addLine_0 : decode cX1_addLine 0 = .ok (.aload_n 0, 1) := by decide +kernel
theorem dX1_addLine_1 : decode cX1_addLine 1 = .ok (.iload_n 1, 1) := by decide +kernel
theorem dX1_addLine_2 : decode cX1_addLine 2 = .ok (.invokevirtual 74, 3) := by decide +kernel
theorem dX1_addLine_5 : decode cX1_addLine 5 = .ok (.iload_n 2, 1) := by decide +kernel
theorem dX1_addLine_6 : decode cX1_addLine 6 = .ok (.iconst 0, 1) := by decide +kernel
theorem dX1_addLine_7 : decode cX1_addLine 7 = .ok (.iconst 3, 1) := by decide +kernel
theorem dX1_addLine_8 : decode cX1_addLine 8 = .ok (.invokestatic 52, 3) := by decide +kernel
theorem dX1_addLine_11 : decode cX1_addLine 11 = .ok (.ifCond .eq 13, 3) := by decide +kernel
theorem dX1_addLine_14 : decode cX1_addLine 14 = .ok (.iload_n 3, 1) := by decide +kernel
theorem dX1_addLine_15 : decode cX1_addLine 15 = .ok (.iconst 1, 1) := by decide +kernel
theorem dX1_addLine_16 : decode cX1_addLine 16 = .ok (.bipush 99, 2) := by decide +kernel
theorem dX1_addLine_18 : decode cX1_addLine 18 = .ok (.invokestatic 52, 3) := by decide +kernel
theorem dX1_addLine_21 : decode cX1_addLine 21 = .ok (.ifCond .ne 13, 3) := by decide +kernel
theorem dX1_addLine_24 : decode cX1_addLine 24 = .ok (.new 56, 3) := by decide +kernel
theorem dX1_addLine_27 : decode cX1_addLine 27 = .ok (.dup, 1) := by decide +kernel
theorem dX1_addLine_28 : decode cX1_addLine 28 = .ok (.ldc 58, 2) := by decide +kernel
theorem dX1_addLine_30 : decode cX1_addLine 30 = .ok (.invokespecial 60, 3) := by decide +kernel
theorem dX1_addLine_33 : decode cX1_addLine 33 = .ok (.athrow, 1) := by decide +kernel
theorem dX1_addLine_34 : decode cX1_addLine 34 = .ok (.aload_n 0, 1) := by decide +kernel
theorem dX1_addLine_35 : decode cX1_addLine 35 = .ok (.getfield 26, 3) := by decide +kernel
theorem dX1_addLine_38 : decode cX1_addLine 38 = .ok (.iload_n 1, 1) := by decide +kernel
theorem dX1_addLine_39 : decode cX1_addLine 39 = .ok (.iaload, 1) := by decide +kernel
theorem dX1_addLine_40 : decode cX1_addLine 40 = .ok (.bipush 8, 2) := by decide +kernel
theorem dX1_addLine_42 : decode cX1_addLine 42 = .ok (.if_icmp .lt 13, 3) := by decide +kernel
theorem dX1_addLine_45 : decode cX1_addLine 45 = .ok (.new 69, 3) := by decide +kernel
theorem dX1_addLine_48 : decode cX1_addLine 48 = .ok (.dup, 1) := by decide +kernel
theorem dX1_addLine_49 : decode cX1_addLine 49 = .ok (.ldc 78, 2) := by decide +kernel
theorem dX1_addLine_51 : decode cX1_addLine 51 = .ok (.invokespecial 73, 3) := by decide +kernel
theorem dX1_addLine_54 : decode cX1_addLine 54 = .ok (.athrow, 1) := by decide +kernel
theorem dX1_addLine_55 : decode cX1_addLine 55 = .ok (.iload_n 1, 1) := by decide +kernel
theorem dX1_addLine_56 : decode cX1_addLine 56 = .ok (.aload_n 0, 1) := by decide +kernel
theorem dX1_addLine_57 : decode cX1_addLine 57 = .ok (.getfield 26, 3) := by decide +kernel
theorem dX1_addLine_60 : decode cX1_addLine 60 = .ok (.iload_n 1, 1) := by decide +kernel
theorem dX1_addLine_61 : decode cX1_addLine 61 = .ok (.iaload, 1) := by decide +kernel
theorem dX1_addLine_62 : decode cX1_addLine 62 = .ok (.invokestatic 80, 3) := by decide +kernel
theorem dX1_addLine_65 : decode cX1_addLine 65 = .ok (.istore 4, 2) := by decide +kernel
theorem dX1_addLine_67 : decode cX1_addLine 67 = .ok (.aload_n 0, 1) := by decide +kernel
theorem dX1_addLine_68 : decode cX1_addLine 68 = .ok (.getfield 29, 3) := by decide +kernel
theorem dX1_addLine_71 : decode cX1_addLine 71 = .ok (.iload 4, 2) := by decide +kernel
theorem dX1_addLine_73 : decode cX1_addLine 73 = .ok (.iload_n 2, 1) := by decide +kernel
theorem dX1_addLine_74 : decode cX1_addLine 74 = .ok (.iastore, 1) := by decide +kernel
theorem dX1_addLine_75 : decode cX1_addLine 75 = .ok (.aload_n 0, 1) := by decide +kernel
theorem dX1_addLine_76 : decode cX1_addLine 76 = .ok (.getfield 32, 3) := by decide +kernel
theorem dX1_addLine_79 : decode cX1_addLine 79 = .ok (.iload 4, 2) := by decide +kernel
theorem dX1_addLine_81 : decode cX1_addLine 81 = .ok (.iload_n 3, 1) := by decide +kernel
theorem dX1_addLine_82 : decode cX1_addLine 82 = .ok (.iastore, 1) := by decide +kernel
theorem dX1_addLine_83 : decode cX1_addLine 83 = .ok (.aload_n 0, 1) := by decide +kernel
theorem dX1_addLine_84 : decode cX1_addLine 84 = .ok (.getfield 26, 3) := by decide +kernel
theorem dX1_addLine_87 : decode cX1_addLine 87 = .ok (.iload_n 1, 1) := by decide +kernel
theorem dX1_addLine_88 : decode cX1_addLine 88 = .ok (.dup2, 1) := by decide +kernel
theorem dX1_addLine_89 : decode cX1_addLine 89 = .ok (.iaload, 1) := by decide +kernel
theorem dX1_addLine_90 : decode cX1_addLine 90 = .ok (.iconst 1, 1) := by decide +kernel
theorem dX1_addLine_91 : decode cX1_addLine 91 = .ok (.iadd, 1) := by decide +kernel
theorem dX1_addLine_92 : decode cX1_addLine 92 = .ok (.iastore, 1) := by decide +kernel
theorem dX1_addLine_93 : decode cX1_addLine 93 = .ok (.aload_n 0, 1) := by decide +kernel
theorem dX1_addLine_94 : decode cX1_addLine 94 = .ok (.iload_n 1, 1) := by decide +kernel
theorem dX1_addLine_95 : decode cX1_addLine 95 = .ok (.invokevirtual 84, 3) := by decide +kernel
theorem dX1_addLine_98 : decode cX1_addLine 98 = .ok (.aload_n 0, 1) := by decide +kernel
theorem dX1_addLine_99 : decode cX1_addLine 99 = .ok (.getfield 26, 3) := by decide +kernel
theorem dX1_addLine_102 : decode cX1_addLine 102 = .ok (.iload_n 1, 1) := by decide +kernel
theorem dX1_addLine_103 : decode cX1_addLine 103 = .ok (.iaload, 1) := by decide +kernel
theorem dX1_addLine_104 : decode cX1_addLine 104 = .ok (.ireturn, 1) := by decide +kernel
set_option maxRecDepth 20000 in
theorem ggX1_removeLine_X1_requireMail : GoodIn wsX1_removeLine wsX1_requireMail := goodIn_ca (goodIn_r _ [8, 9, 10, 11, 12, 13, 7, 14, 75, 76, 77, 78, 79, 80, 81, 82, 83, 84, 85, 86] rfl (by decide +kernel)) (goodIn_sub (fun _ h => List.mem_cons_of_mem _ (List.mem_append_right _ h)) (by decide +kernel))
set_option maxRecDepth 20000 in
theorem gX1_removeLine_X1_requireMail : GoodIn wsX1_removeLine (wsV RX1 74 RX1 yX1_requireMail wsX1_requireMail) := goodIn_app (goodIn_of _ (by decide +kernel)) ggX1_removeLine_X1_requireMail
set_option maxRecDepth 20000 in
theorem ggX1_removeLine_X1_realignAround : GoodIn wsX1_removeLine wsX1_realignAround := goodIn_ca (goodIn_r _ [18, 11, 19, 20, 21, 7, 22, 23, 24, 25, 26, 27, 28, 29, 30, 31, 32, 33, 34, 35, 36, 37, 38, 3, 39, 40, 41, 42, 43, 44, 45, 46, 47, 48, 49, 50, 51, 52, 53, 54, 13, 14, 55, 56, 57, 58, 59, 60, 61, 62, 63, 64, 65, 66, 67, 68, 69, 70, 71, 72, 73, 74, 75, 76, 77, 78, 79, 80, 81, 82, 83, 84, 85, 86, 87, 88, 89] rfl (by decide +kernel)) (goodIn_sub (fun _ h => List.mem_cons_of_mem _ (List.mem_append_left _ (List.mem_append_left _ (List.mem_append_right _ h)))) (by decide +kernel))
set_option maxRecDepth 20000 in
theorem gX1_removeLine_X1_realignAround : GoodIn wsX1_removeLine (wsV RX1 84 RX1 yX1_realignAround wsX1_realignAround) := goodIn_app (goodIn_of _ (by decide +kernel)) ggX1_removeLine_X1_realignAround
theorem dX1_removeLine_0 : decode cX1_removeLine 0 = .ok (.aload_n 0, 1) := by decide +kernel
theorem dX1_removeLine_1 : decode cX1_removeLine 1 = .ok (.iload_n 1, 1) := by decide +kernel
theorem dX1_removeLine_2 : decode cX1_removeLine 2 = .ok (.invokevirtual 74, 3) := by decide +kernel
theorem dX1_removeLine_5 : decode cX1_removeLine 5 = .ok (.aload_n 0, 1) := by decide +kernel
theorem dX1_removeLine_6 : decode cX1_removeLine 6 = .ok (.getfield 26, 3) := by decide +kernel
theorem dX1_removeLine_9 : decode cX1_removeLine 9 = .ok (.iload_n 1, 1) := by decide +kernel
theorem dX1_removeLine_10 : decode cX1_removeLine 10 = .ok (.iaload, 1) := by decide +kernel
theorem dX1_removeLine_11 : decode cX1_removeLine 11 = .ok (.ifCond .gt 13, 3) := by decide +kernel
theorem dX1_removeLine_14 : decode cX1_removeLine 14 = .ok (.new 69, 3) := by decide +kernel
theorem dX1_removeLine_17 : decode cX1_removeLine 17 = .ok (.dup, 1) := by decide +kernel
theorem dX1_removeLine_18 : decode cX1_removeLine 18 = .ok (.ldc 87, 2) := by decide +kernel
theorem dX1_removeLine_20 : decode cX1_removeLine 20 = .ok (.invokespecial 73, 3) := by decide +kernel
theorem dX1_removeLine_23 : decode cX1_removeLine 23 = .ok (.athrow, 1) := by decide +kernel
theorem dX1_removeLine_24 : decode cX1_removeLine 24 = .ok (.aload_n 0, 1) := by decide +kernel
theorem dX1_removeLine_25 : decode cX1_removeLine 25 = .ok (.getfield 26, 3) := by decide +kernel
theorem dX1_removeLine_28 : decode cX1_removeLine 28 = .ok (.iload_n 1, 1) := by decide +kernel
theorem dX1_removeLine_29 : decode cX1_removeLine 29 = .ok (.dup2, 1) := by decide +kernel
theorem dX1_removeLine_30 : decode cX1_removeLine 30 = .ok (.iaload, 1) := by decide +kernel
theorem dX1_removeLine_31 : decode cX1_removeLine 31 = .ok (.iconst 1, 1) := by decide +kernel
theorem dX1_removeLine_32 : decode cX1_removeLine 32 = .ok (.isub, 1) := by decide +kernel
theorem dX1_removeLine_33 : decode cX1_removeLine 33 = .ok (.iastore, 1) := by decide +kernel
theorem dX1_removeLine_34 : decode cX1_removeLine 34 = .ok (.aload_n 0, 1) := by decide +kernel
theorem dX1_removeLine_35 : decode cX1_removeLine 35 = .ok (.iload_n 1, 1) := by decide +kernel
theorem dX1_removeLine_36 : decode cX1_removeLine 36 = .ok (.invokevirtual 84, 3) := by decide +kernel
theorem dX1_removeLine_39 : decode cX1_removeLine 39 = .ok (.aload_n 0, 1) := by decide +kernel
theorem dX1_removeLine_40 : decode cX1_removeLine 40 = .ok (.getfield 26, 3) := by decide +kernel
theorem dX1_removeLine_43 : decode cX1_removeLine 43 = .ok (.iload_n 1, 1) := by decide +kernel
theorem dX1_removeLine_44 : decode cX1_removeLine 44 = .ok (.iaload, 1) := by decide +kernel
theorem dX1_removeLine_45 : decode cX1_removeLine 45 = .ok (.ireturn, 1) := by decide +kernel
theorem dX1_mails_0 : decode cX1_mails 0 = .ok (.aload_n 0, 1) := by decide +kernel
theorem dX1_mails_1 : decode cX1_mails 1 = .ok (.getfield 9, 3) := by decide +kernel
theorem dX1_mails_4 : decode cX1_mails 4 = .ok (.ireturn, 1) := by decide +kernel
set_option maxRecDepth 20000 in
theorem ggX1_lines_X1_requireMail : GoodIn wsX1_lines wsX1_requireMail := goodIn_ca (goodIn_r _ [6, 7, 8, 9, 10, 11, 5, 12, 13, 14, 15, 16, 17, 18, 19, 20, 21, 22, 23, 24] rfl (by decide +kernel)) (goodIn_sub (fun _ h => List.mem_cons_of_mem _ (List.mem_append_right _ h)) (by decide +kernel))
set_option maxRecDepth 20000 in
theorem gX1_lines_X1_requireMail : GoodIn wsX1_lines (wsV RX1 74 RX1 yX1_requireMail wsX1_requireMail) := goodIn_app (goodIn_of _ (by decide +kernel)) ggX1_lines_X1_requireMail
theorem dX1_lines_0 : decode cX1_lines 0 = .ok (.aload_n 0, 1) := by decide +kernel
theorem dX1_lines_1 : decode cX1_lines 1 = .ok (.iload_n 1, 1) := by decide +kernel
theorem dX1_lines_2 : decode cX1_lines 2 = .ok (.invokevirtual 74, 3) := by decide +kernel
theorem dX1_lines_5 : decode cX1_lines 5 = .ok (.aload_n 0, 1) := by decide +kernel
theorem dX1_lines_6 : decode cX1_lines 6 = .ok (.getfield 26, 3) := by decide +kernel
theorem dX1_lines_9 : decode cX1_lines 9 = .ok (.iload_n 1, 1) := by decide +kernel
theorem dX1_lines_10 : decode cX1_lines 10 = .ok (.iaload, 1) := by decide +kernel
theorem dX1_lines_11 : decode cX1_lines 11 = .ok (.ireturn, 1) := by decide +kernel
set_option maxRecDepth 20000 in
theorem ggX1_word_X1_requireLine : GoodIn wsX1_word wsX1_requireLine := goodIn_ca (goodIn_ca (goodIn_r _ [6, 7, 8, 9, 10, 11, 12, 5, 13, 14, 15, 16, 17, 21, 22, 23, 24, 25, 26, 27, 28, 29, 30, 31, 32] rfl (by decide +kernel)) (goodIn_sub (fun _ h => List.mem_cons_of_mem _ (List.mem_append_left _ (List.mem_append_right _ h))) (by decide +kernel))) (goodIn_sub (fun _ h => List.mem_cons_of_mem _ (List.mem_append_right _ h)) (by decide +kernel))
set_option maxRecDepth 20000 in
theorem gX1_word_X1_requireLine : GoodIn wsX1_word (wsV RX1 89 RX1 yX1_requireLine wsX1_requireLine) := goodIn_app (goodIn_of _ (by decide +kernel)) ggX1_word_X1_requireLine
set_option maxRecDepth 20000 in
theorem ggX1_word_X1_placeOf : GoodIn wsX1_word wsX1_placeOf := goodIn_r _ [20] rfl (by decide +kernel)
set_option maxRecDepth 20000 in
theorem gX1_word_X1_placeOf : GoodIn wsX1_word (va_wsS RX1 80 yX1_placeOf wsX1_placeOf) := goodIn_app (goodIn_of _ (by decide +kernel)) ggX1_word_X1_placeOf
theorem dX1_word_0 : decode cX1_word 0 = .ok (.aload_n 0, 1) := by decide +kernel
theorem dX1_word_1 : decode cX1_word 1 = .ok (.iload_n 1, 1) := by decide +kernel
theorem dX1_word_2 : decode cX1_word 2 = .ok (.iload_n 2, 1) := by decide +kernel
theorem dX1_word_3 : decode cX1_word 3 = .ok (.invokevirtual 89, 3) := by decide +kernel
theorem dX1_word_6 : decode cX1_word 6 = .ok (.aload_n 0, 1) := by decide +kernel
theorem dX1_word_7 : decode cX1_word 7 = .ok (.getfield 32, 3) := by decide +kernel
theorem dX1_word_10 : decode cX1_word 10 = .ok (.iload_n 1, 1) := by decide +kernel
theorem dX1_word_11 : decode cX1_word 11 = .ok (.iload_n 2, 1) := by decide +kernel
theorem dX1_word_12 : decode cX1_word 12 = .ok (.invokestatic 80, 3) := by decide +kernel
theorem dX1_word_15 : decode cX1_word 15 = .ok (.iaload, 1) := by decide +kernel
theorem dX1_word_16 : decode cX1_word 16 = .ok (.ireturn, 1) := by decide +kernel
set_option maxRecDepth 20000 in
theorem ggX1_parent_X1_requireMail : GoodIn wsX1_parent wsX1_requireMail := goodIn_ca (goodIn_r _ [7, 8, 9, 10, 11, 12, 6, 13, 24, 25, 26, 27, 28, 29, 30, 31, 32, 33, 34, 35] rfl (by decide +kernel)) (goodIn_sub (fun _ h => List.mem_cons_of_mem _ (List.mem_append_left _ (List.mem_append_right _ h))) (by decide +kernel))
set_option maxRecDepth 20000 in
theorem gX1_parent_X1_requireMail : GoodIn wsX1_parent (wsV RX1 74 RX1 yX1_requireMail wsX1_requireMail) := goodIn_app (goodIn_of _ (by decide +kernel)) ggX1_parent_X1_requireMail
set_option maxRecDepth 20000 in
theorem ggX1_parent_X1_parentOf : GoodIn wsX1_parent wsX1_parentOf := goodIn_ca (goodIn_r _ [17, 18, 19, 20, 21, 6, 22, 10, 23, 24, 25, 26, 27, 28, 29, 30, 31, 32, 33, 34, 35] rfl (by decide +kernel)) (goodIn_sub (fun _ h => List.mem_cons_of_mem _ (List.mem_append_right _ h)) (by decide +kernel))
set_option maxRecDepth 20000 in
theorem gX1_parent_X1_parentOf : GoodIn wsX1_parent (wsV RX1 93 RX1 yX1_parentOf wsX1_parentOf) := goodIn_app (goodIn_of _ (by decide +kernel)) ggX1_parent_X1_parentOf
theorem dX1_parent_0 : decode cX1_parent 0 = .ok (.aload_n 0, 1) := by decide +kernel
theorem dX1_parent_1 : decode cX1_parent 1 = .ok (.iload_n 1, 1) := by decide +kernel
theorem dX1_parent_2 : decode cX1_parent 2 = .ok (.invokevirtual 74, 3) := by decide +kernel
theorem dX1_parent_5 : decode cX1_parent 5 = .ok (.aload_n 0, 1) := by decide +kernel
theorem dX1_parent_6 : decode cX1_parent 6 = .ok (.iload_n 1, 1) := by decide +kernel
theorem dX1_parent_7 : decode cX1_parent 7 = .ok (.invokevirtual 93, 3) := by decide +kernel
theorem dX1_parent_10 : decode cX1_parent 10 = .ok (.istore_n 2, 1) := by decide +kernel
theorem dX1_parent_11 : decode cX1_parent 11 = .ok (.iload_n 2, 1) := by decide +kernel
theorem dX1_parent_12 : decode cX1_parent 12 = .ok (.iconst (-1), 1) := by decide +kernel
theorem dX1_parent_13 : decode cX1_parent 13 = .ok (.if_icmp .ne 13, 3) := by decide +kernel
theorem dX1_parent_16 : decode cX1_parent 16 = .ok (.new 96, 3) := by decide +kernel
theorem dX1_parent_19 : decode cX1_parent 19 = .ok (.dup, 1) := by decide +kernel
theorem dX1_parent_20 : decode cX1_parent 20 = .ok (.ldc 98, 2) := by decide +kernel
theorem dX1_parent_22 : decode cX1_parent 22 = .ok (.invokespecial 100, 3) := by decide +kernel
theorem dX1_parent_25 : decode cX1_parent 25 = .ok (.athrow, 1) := by decide +kernel
theorem dX1_parent_26 : decode cX1_parent 26 = .ok (.iload_n 2, 1) := by decide +kernel
theorem dX1_parent_27 : decode cX1_parent 27 = .ok (.ireturn, 1) := by decide +kernel
set_option maxRecDepth 20000 in
theorem ggX1_aligned_X1_requireMail : GoodIn wsX1_aligned wsX1_requireMail := goodIn_ca (goodIn_r _ [6, 7, 8, 9, 10, 11, 5, 12, 64, 65, 66, 67, 68, 69, 70, 71, 72, 73, 74, 75] rfl (by decide +kernel)) (goodIn_sub (fun _ h => List.mem_cons_of_mem _ (List.mem_append_left _ (List.mem_append_right _ h))) (by decide +kernel))
set_option maxRecDepth 20000 in
theorem gX1_aligned_X1_requireMail : GoodIn wsX1_aligned (wsV RX1 74 RX1 yX1_requireMail wsX1_requireMail) := goodIn_app (goodIn_of _ (by decide +kernel)) ggX1_aligned_X1_requireMail
set_option maxRecDepth 20000 in
theorem ggX1_aligned_X1_faceParent : GoodIn wsX1_aligned wsX1_faceParent := goodIn_ca (goodIn_r _ [16, 1, 17, 18, 19, 20, 21, 22, 23, 24, 25, 26, 27, 28, 29, 5, 30, 31, 32, 33, 34, 35, 9, 36, 37, 38, 39, 40, 41, 42, 43, 11, 12, 44, 45, 46, 47, 48, 49, 50, 64, 65, 66, 67, 68, 69, 70, 71, 72, 73, 74, 75, 76, 77, 78] rfl (by decide +kernel)) (goodIn_sub (fun _ h => List.mem_cons_of_mem _ (List.mem_append_right _ h)) (by decide +kernel))
set_option maxRecDepth 20000 in
theorem gX1_aligned_X1_faceParent : GoodIn wsX1_aligned (wsV RX1 108 RX1 yX1_faceParent wsX1_faceParent) := goodIn_app (goodIn_of _ (by decide +kernel)) ggX1_aligned_X1_faceParent
set_option maxRecDepth 20000 in
theorem ggX1_aligned_X0_fillTable : GoodIn wsX1_aligned wsX0_fillTable := goodIn_ca (goodIn_r _ [54, 55, 56, 57, 58, 59, 25, 26, 76, 77, 78] rfl (by decide +kernel)) (goodIn_sub (fun _ h => List.mem_cons_of_mem _ (List.mem_append_right _ h)) (by decide +kernel))
set_option maxRecDepth 20000 in
theorem gX1_aligned_X0_fillTable : GoodIn wsX1_aligned (wsV RX1 111 RX0 yX0_fillTable wsX0_fillTable) := goodIn_app (goodIn_of _ (by decide +kernel)) ggX1_aligned_X0_fillTable
set_option maxRecDepth 20000 in
theorem ggX1_aligned_X0_mostPartners : GoodIn wsX1_aligned wsX0_mostPartners := goodIn_ca (goodIn_r _ [63, 55, 76, 77, 78] rfl (by decide +kernel)) (goodIn_sub (fun _ h => List.mem_cons_of_mem _ (List.mem_append_right _ h)) (by decide +kernel))
set_option maxRecDepth 20000 in
theorem gX1_aligned_X0_mostPartners : GoodIn wsX1_aligned (wsV RX1 114 RX0 yX0_mostPartners wsX0_mostPartners) := goodIn_app (goodIn_of _ (by decide +kernel)) ggX1_aligned_X0_mostPartners
theorem dX1_aligned_0 : decode cX1_aligned 0 = .ok (.aload_n 0, 1) := by decide +kernel
theorem dX1_aligned_1 : decode cX1_aligned 1 = .ok (.iload_n 1, 1) := by decide +kernel
theorem dX1_aligned_2 : decode cX1_aligned 2 = .ok (.invokevirtual 74, 3) := by decide +kernel
theorem dX1_aligned_5 : decode cX1_aligned 5 = .ok (.aload_n 0, 1) := by decide +kernel
theorem dX1_aligned_6 : decode cX1_aligned 6 = .ok (.iload_n 1, 1) := by decide +kernel
theorem dX1_aligned_7 : decode cX1_aligned 7 = .ok (.invokevirtual 108, 3) := by decide +kernel
theorem dX1_aligned_10 : decode cX1_aligned 10 = .ok (.aload_n 0, 1) := by decide +kernel
theorem dX1_aligned_11 : decode cX1_aligned 11 = .ok (.getfield 41, 3) := by decide +kernel
theorem dX1_aligned_14 : decode cX1_aligned 14 = .ok (.invokevirtual 111, 3) := by decide +kernel
theorem dX1_aligned_17 : decode cX1_aligned 17 = .ok (.aload_n 0, 1) := by decide +kernel
theorem dX1_aligned_18 : decode cX1_aligned 18 = .ok (.getfield 41, 3) := by decide +kernel
theorem dX1_aligned_21 : decode cX1_aligned 21 = .ok (.invokevirtual 114, 3) := by decide +kernel
theorem dX1_aligned_24 : decode cX1_aligned 24 = .ok (.ireturn, 1) := by decide +kernel
set_option maxRecDepth 20000 in
theorem ggX1_alignedByTrying_X1_requireMail : GoodIn wsX1_alignedByTrying wsX1_requireMail := goodIn_ca (goodIn_r _ [6, 7, 8, 9, 10, 11, 5, 12, 62, 63, 64, 65, 66, 67, 68, 69, 70, 71, 72, 73] rfl (by decide +kernel)) (goodIn_sub (fun _ h => List.mem_cons_of_mem _ (List.mem_append_left _ (List.mem_append_right _ h))) (by decide +kernel))
set_option maxRecDepth 20000 in
theorem gX1_alignedByTrying_X1_requireMail : GoodIn wsX1_alignedByTrying (wsV RX1 74 RX1 yX1_requireMail wsX1_requireMail) := goodIn_app (goodIn_of _ (by decide +kernel)) ggX1_alignedByTrying_X1_requireMail
set_option maxRecDepth 20000 in
theorem ggX1_alignedByTrying_X1_faceParent : GoodIn wsX1_alignedByTrying wsX1_faceParent := goodIn_ca (goodIn_r _ [16, 1, 17, 18, 19, 20, 21, 22, 23, 24, 25, 26, 27, 28, 29, 5, 30, 31, 32, 33, 34, 35, 9, 36, 37, 38, 39, 40, 41, 42, 43, 11, 12, 44, 45, 46, 47, 48, 49, 50, 62, 63, 64, 65, 66, 67, 68, 69, 70, 71, 72, 73, 74, 75, 76] rfl (by decide +kernel)) (goodIn_sub (fun _ h => List.mem_cons_of_mem _ (List.mem_append_right _ h)) (by decide +kernel))
set_option maxRecDepth 20000 in
theorem gX1_alignedByTrying_X1_faceParent : GoodIn wsX1_alignedByTrying (wsV RX1 108 RX1 yX1_faceParent wsX1_faceParent) := goodIn_app (goodIn_of _ (by decide +kernel)) ggX1_alignedByTrying_X1_faceParent
set_option maxRecDepth 20000 in
theorem ggX1_alignedByTrying_X0_mostPartnersByTrying : GoodIn wsX1_alignedByTrying wsX0_mostPartnersByTrying := goodIn_ca (goodIn_r _ [54, 25, 26, 55, 56, 23, 57, 58, 59, 60, 61, 74, 75, 76] rfl (by decide +kernel)) (goodIn_sub (fun _ h => List.mem_cons_of_mem _ (List.mem_append_right _ h)) (by decide +kernel))
set_option maxRecDepth 20000 in
theorem gX1_alignedByTrying_X0_mostPartnersByTrying : GoodIn wsX1_alignedByTrying (wsV RX1 118 RX0 yX0_mostPartnersByTrying wsX0_mostPartnersByTrying) := goodIn_app (goodIn_of _ (by decide +kernel)) ggX1_alignedByTrying_X0_mostPartnersByTrying
theorem dX1_alignedByTrying_0 : decode cX1_alignedByTrying 0 = .ok (.aload_n 0, 1) := by decide +kernel
theorem dX1_alignedByTrying_1 : decode cX1_alignedByTrying 1 = .ok (.iload_n 1, 1) := by decide +kernel
theorem dX1_alignedByTrying_2 : decode cX1_alignedByTrying 2 = .ok (.invokevirtual 74, 3) := by decide +kernel
theorem dX1_alignedByTrying_5 : decode cX1_alignedByTrying 5 = .ok (.aload_n 0, 1) := by decide +kernel
theorem dX1_alignedByTrying_6 : decode cX1_alignedByTrying 6 = .ok (.iload_n 1, 1) := by decide +kernel
theorem dX1_alignedByTrying_7 : decode cX1_alignedByTrying 7 = .ok (.invokevirtual 108, 3) := by decide +kernel
theorem dX1_alignedByTrying_10 : decode cX1_alignedByTrying 10 = .ok (.aload_n 0, 1) := by decide +kernel
theorem dX1_alignedByTrying_11 : decode cX1_alignedByTrying 11 = .ok (.getfield 41, 3) := by decide +kernel
theorem dX1_alignedByTrying_14 : decode cX1_alignedByTrying 14 = .ok (.invokevirtual 118, 3) := by decide +kernel
theorem dX1_alignedByTrying_17 : decode cX1_alignedByTrying 17 = .ok (.ireturn, 1) := by decide +kernel
set_option maxRecDepth 20000 in
theorem ggX1_partner_X1_requireLine : GoodIn wsX1_partner wsX1_requireLine := goodIn_ca (goodIn_ca (goodIn_r _ [8, 9, 10, 11, 12, 13, 14, 7, 15, 16, 17, 18, 19, 37, 38, 39, 40, 41, 42, 43, 44, 45, 46, 47, 48] rfl (by decide +kernel)) (goodIn_sub (fun _ h => List.mem_cons_of_mem _ (List.mem_append_left _ (List.mem_append_right _ h))) (by decide +kernel))) (goodIn_sub (fun _ h => List.mem_cons_of_mem _ (List.mem_append_right _ h)) (by decide +kernel))
set_option maxRecDepth 20000 in
theorem gX1_partner_X1_requireLine : GoodIn wsX1_partner (wsV RX1 89 RX1 yX1_requireLine wsX1_requireLine) := goodIn_app (goodIn_of _ (by decide +kernel)) ggX1_partner_X1_requireLine
set_option maxRecDepth 20000 in
theorem ggX1_partner_X1_placeOf : GoodIn wsX1_partner wsX1_placeOf := goodIn_r _ [22] rfl (by decide +kernel)
set_option maxRecDepth 20000 in
theorem gX1_partner_X1_placeOf : GoodIn wsX1_partner (va_wsS RX1 80 yX1_placeOf wsX1_placeOf) := goodIn_app (goodIn_of _ (by decide +kernel)) ggX1_partner_X1_placeOf
set_option maxRecDepth 20000 in
theorem ggX1_partner_X1_hasPartner : GoodIn wsX1_partner wsX1_hasPartner := goodIn_ca (goodIn_r _ [26, 3, 27, 28, 29, 7, 30, 11, 17, 18, 19, 31, 32, 33, 34, 35, 36, 37, 38, 39, 40, 41, 42, 43, 44, 45, 46, 47, 48] rfl (by decide +kernel)) (goodIn_sub (fun _ h => List.mem_cons_of_mem _ (List.mem_append_left _ (List.mem_append_right _ h))) (by decide +kernel))
set_option maxRecDepth 20000 in
theorem gX1_partner_X1_hasPartner : GoodIn wsX1_partner (wsV RX1 121 RX1 yX1_hasPartner wsX1_hasPartner) := goodIn_app (goodIn_of _ (by decide +kernel)) ggX1_partner_X1_hasPartner
set_option maxRecDepth 20000 in
theorem ggX1_partner_X1_lineAt : GoodIn wsX1_partner wsX1_lineAt := goodIn_r _ [33] rfl (by decide +kernel)
set_option maxRecDepth 20000 in
theorem gX1_partner_X1_lineAt : GoodIn wsX1_partner (va_wsS RX1 126 yX1_lineAt wsX1_lineAt) := goodIn_app (goodIn_of _ (by decide +kernel)) ggX1_partner_X1_lineAt
theorem dX1_partner_0 : decode cX1_partner 0 = .ok (.aload_n 0, 1) := by decide +kernel
theorem dX1_partner_1 : decode cX1_partner 1 = .ok (.iload_n 1, 1) := by decide +kernel
theorem dX1_partner_2 : decode cX1_partner 2 = .ok (.iload_n 2, 1) := by decide +kernel
theorem dX1_partner_3 : decode cX1_partner 3 = .ok (.invokevirtual 89, 3) := by decide +kernel
theorem dX1_partner_6 : decode cX1_partner 6 = .ok (.iload_n 1, 1) := by decide +kernel
theorem dX1_partner_7 : decode cX1_partner 7 = .ok (.iload_n 2, 1) := by decide +kernel
theorem dX1_partner_8 : decode cX1_partner 8 = .ok (.invokestatic 80, 3) := by decide +kernel
theorem dX1_partner_11 : decode cX1_partner 11 = .ok (.istore_n 3, 1) := by decide +kernel
theorem dX1_partner_12 : decode cX1_partner 12 = .ok (.aload_n 0, 1) := by decide +kernel
theorem dX1_partner_13 : decode cX1_partner 13 = .ok (.iload_n 3, 1) := by decide +kernel
theorem dX1_partner_14 : decode cX1_partner 14 = .ok (.invokevirtual 121, 3) := by decide +kernel
theorem dX1_partner_17 : decode cX1_partner 17 = .ok (.ifCond .ne 13, 3) := by decide +kernel
theorem dX1_partner_20 : decode cX1_partner 20 = .ok (.new 96, 3) := by decide +kernel
theorem dX1_partner_23 : decode cX1_partner 23 = .ok (.dup, 1) := by decide +kernel
theorem dX1_partner_24 : decode cX1_partner 24 = .ok (.ldc 124, 2) := by decide +kernel
theorem dX1_partner_26 : decode cX1_partner 26 = .ok (.invokespecial 100, 3) := by decide +kernel
theorem dX1_partner_29 : decode cX1_partner 29 = .ok (.athrow, 1) := by decide +kernel
theorem dX1_partner_30 : decode cX1_partner 30 = .ok (.aload_n 0, 1) := by decide +kernel
theorem dX1_partner_31 : decode cX1_partner 31 = .ok (.getfield 35, 3) := by decide +kernel
theorem dX1_partner_34 : decode cX1_partner 34 = .ok (.iload_n 3, 1) := by decide +kernel
theorem dX1_partner_35 : decode cX1_partner 35 = .ok (.iaload, 1) := by decide +kernel
theorem dX1_partner_36 : decode cX1_partner 36 = .ok (.invokestatic 126, 3) := by decide +kernel
theorem dX1_partner_39 : decode cX1_partner 39 = .ok (.ireturn, 1) := by decide +kernel
set_option maxRecDepth 20000 in
theorem ggX1_originMail_X1_requireLine : GoodIn wsX1_originMail wsX1_requireLine := goodIn_ca (goodIn_ca (goodIn_r _ [5, 6, 7, 8, 9, 10, 11, 4, 12, 13, 14, 15, 16, 39, 40, 41, 42, 43, 44, 45, 46, 47, 48, 49, 50] rfl (by decide +kernel)) (goodIn_sub (fun _ h => List.mem_cons_of_mem _ (List.mem_append_left _ (List.mem_append_right _ h))) (by decide +kernel))) (goodIn_sub (fun _ h => List.mem_cons_of_mem _ (List.mem_append_right _ h)) (by decide +kernel))
set_option maxRecDepth 20000 in
theorem gX1_originMail_X1_requireLine : GoodIn wsX1_originMail (wsV RX1 89 RX1 yX1_requireLine wsX1_requireLine) := goodIn_app (goodIn_of _ (by decide +kernel)) ggX1_originMail_X1_requireLine
set_option maxRecDepth 20000 in
theorem ggX1_originMail_X1_placeOf : GoodIn wsX1_originMail wsX1_placeOf := goodIn_r _ [19] rfl (by decide +kernel)
set_option maxRecDepth 20000 in
theorem gX1_originMail_X1_placeOf : GoodIn wsX1_originMail (va_wsS RX1 80 yX1_placeOf wsX1_placeOf) := goodIn_app (goodIn_of _ (by decide +kernel)) ggX1_originMail_X1_placeOf
set_option maxRecDepth 20000 in
theorem ggX1_originMail_X1_originOf : GoodIn wsX1_originMail wsX1_originOf := goodIn_ca (goodIn_r _ [23, 24, 25, 26, 27, 4, 28, 29, 30, 31, 32, 8, 14, 15, 16, 33, 34, 35, 36, 37, 38, 39, 40, 41, 42, 43, 44, 45, 46, 47, 48, 49, 50] rfl (by decide +kernel)) (goodIn_sub (fun _ h => List.mem_cons_of_mem _ (List.mem_append_left _ (List.mem_append_right _ h))) (by decide +kernel))
set_option maxRecDepth 20000 in
theorem gX1_originMail_X1_originOf : GoodIn wsX1_originMail (wsV RX1 129 RX1 yX1_originOf wsX1_originOf) := goodIn_app (goodIn_of _ (by decide +kernel)) ggX1_originMail_X1_originOf
set_option maxRecDepth 20000 in
theorem ggX1_originMail_X1_mailAt : GoodIn wsX1_originMail wsX1_mailAt := goodIn_r _ [38] rfl (by decide +kernel)
set_option maxRecDepth 20000 in
theorem gX1_originMail_X1_mailAt : GoodIn wsX1_originMail (va_wsS RX1 132 yX1_mailAt wsX1_mailAt) := goodIn_app (goodIn_of _ (by decide +kernel)) ggX1_originMail_X1_mailAt
theorem dX1_originMail_0 : decode cX1_originMail 0 = .ok (.aload_n 0, 1) := by decide +kernel
theorem dX1_originMail_1 : decode cX1_originMail 1 = .ok (.iload_n 1, 1) := by decide +kernel
theorem dX1_originMail_2 : decode cX1_originMail 2 = .ok (.iload_n 2, 1) := by decide +kernel
theorem dX1_originMail_3 : decode cX1_originMail 3 = .ok (.invokevirtual 89, 3) := by decide +kernel
theorem dX1_originMail_6 : decode cX1_originMail 6 = .ok (.aload_n 0, 1) := by decide +kernel
theorem dX1_originMail_7 : decode cX1_originMail 7 = .ok (.iload_n 1, 1) := by decide +kernel
theorem dX1_originMail_8 : decode cX1_originMail 8 = .ok (.iload_n 2, 1) := by decide +kernel
theorem dX1_originMail_9 : decode cX1_originMail 9 = .ok (.invokestatic 80, 3) := by decide +kernel
theorem dX1_originMail_12 : decode cX1_originMail 12 = .ok (.invokevirtual 129, 3) := by decide +kernel
theorem dX1_originMail_15 : decode cX1_originMail 15 = .ok (.invokestatic 132, 3) := by decide +kernel
theorem dX1_originMail_18 : decode cX1_originMail 18 = .ok (.ireturn, 1) := by decide +kernel
set_option maxRecDepth 20000 in
theorem ggX1_originLine_X1_requireLine : GoodIn wsX1_originLine wsX1_requireLine := goodIn_ca (goodIn_ca (goodIn_r _ [5, 6, 7, 8, 9, 10, 11, 4, 12, 13, 14, 15, 16, 39, 40, 41, 42, 43, 44, 45, 46, 47, 48, 49, 50] rfl (by decide +kernel)) (goodIn_sub (fun _ h => List.mem_cons_of_mem _ (List.mem_append_left _ (List.mem_append_right _ h))) (by decide +kernel))) (goodIn_sub (fun _ h => List.mem_cons_of_mem _ (List.mem_append_right _ h)) (by decide +kernel))
set_option maxRecDepth 20000 in
theorem gX1_originLine_X1_requireLine : GoodIn wsX1_originLine (wsV RX1 89 RX1 yX1_requireLine wsX1_requireLine) := goodIn_app (goodIn_of _ (by decide +kernel)) ggX1_originLine_X1_requireLine
set_option maxRecDepth 20000 in
theorem ggX1_originLine_X1_placeOf : GoodIn wsX1_originLine wsX1_placeOf := goodIn_r _ [19] rfl (by decide +kernel)
set_option maxRecDepth 20000 in
theorem gX1_originLine_X1_placeOf : GoodIn wsX1_originLine (va_wsS RX1 80 yX1_placeOf wsX1_placeOf) := goodIn_app (goodIn_of _ (by decide +kernel)) ggX1_originLine_X1_placeOf
set_option maxRecDepth 20000 in
theorem ggX1_originLine_X1_originOf : GoodIn wsX1_originLine wsX1_originOf := goodIn_ca (goodIn_r _ [23, 24, 25, 26, 27, 4, 28, 29, 30, 31, 32, 8, 14, 15, 16, 33, 34, 35, 36, 37, 38, 39, 40, 41, 42, 43, 44, 45, 46, 47, 48, 49, 50] rfl (by decide +kernel)) (goodIn_sub (fun _ h => List.mem_cons_of_mem _ (List.mem_append_left _ (List.mem_append_right _ h))) (by decide +kernel))
set_option maxRecDepth 20000 in
theorem gX1_originLine_X1_originOf : GoodIn wsX1_originLine (wsV RX1 129 RX1 yX1_originOf wsX1_originOf) := goodIn_app (goodIn_of _ (by decide +kernel)) ggX1_originLine_X1_originOf
set_option maxRecDepth 20000 in
theorem ggX1_originLine_X1_lineAt : GoodIn wsX1_originLine wsX1_lineAt := goodIn_r _ [35] rfl (by decide +kernel)
set_option maxRecDepth 20000 in
theorem gX1_originLine_X1_lineAt : GoodIn wsX1_originLine (va_wsS RX1 126 yX1_lineAt wsX1_lineAt) := goodIn_app (goodIn_of _ (by decide +kernel)) ggX1_originLine_X1_lineAt
theorem dX1_originLine_0 : decode cX1_originLine 0 = .ok (.aload_n 0, 1) := by decide +kernel
theorem dX1_originLine_1 : decode cX1_originLine 1 = .ok (.iload_n 1, 1) := by decide +kernel
theorem dX1_originLine_2 : decode cX1_originLine 2 = .ok (.iload_n 2, 1) := by decide +kernel
theorem dX1_originLine_3 : decode cX1_originLine 3 = .ok (.invokevirtual 89, 3) := by decide +kernel
theorem dX1_originLine_6 : decode cX1_originLine 6 = .ok (.aload_n 0, 1) := by decide +kernel
theorem dX1_originLine_7 : decode cX1_originLine 7 = .ok (.iload_n 1, 1) := by decide +kernel
theorem dX1_originLine_8 : decode cX1_originLine 8 = .ok (.iload_n 2, 1) := by decide +kernel
theorem dX1_originLine_9 : decode cX1_originLine 9 = .ok (.invokestatic 80, 3) := by decide +kernel
theorem dX1_originLine_12 : decode cX1_originLine 12 = .ok (.invokevirtual 129, 3) := by decide +kernel
theorem dX1_originLine_15 : decode cX1_originLine 15 = .ok (.invokestatic 126, 3) := by decide +kernel
theorem dX1_originLine_18 : decode cX1_originLine 18 = .ok (.ireturn, 1) := by decide +kernel
set_option maxRecDepth 20000 in
theorem ggX1_kind_X1_requireLine : GoodIn wsX1_kind wsX1_requireLine := goodIn_ca (goodIn_ca (goodIn_r _ [5, 6, 7, 8, 9, 10, 11, 4, 12, 13, 14, 15, 16, 79, 80, 81, 82, 83, 84, 85, 86, 87, 88, 89, 90] rfl (by decide +kernel)) (goodIn_sub (fun _ h => List.mem_cons_of_mem _ (List.mem_append_left _ (List.mem_append_right _ h))) (by decide +kernel))) (goodIn_sub (fun _ h => List.mem_cons_of_mem _ (List.mem_append_right _ h)) (by decide +kernel))
set_option maxRecDepth 20000 in
theorem gX1_kind_X1_requireLine : GoodIn wsX1_kind (wsV RX1 89 RX1 yX1_requireLine wsX1_requireLine) := goodIn_app (goodIn_of _ (by decide +kernel)) ggX1_kind_X1_requireLine
set_option maxRecDepth 20000 in
theorem ggX1_kind_X1_placeOf : GoodIn wsX1_kind wsX1_placeOf := goodIn_r _ [19] rfl (by decide +kernel)
set_option maxRecDepth 20000 in
theorem gX1_kind_X1_placeOf : GoodIn wsX1_kind (va_wsS RX1 80 yX1_placeOf wsX1_placeOf) := goodIn_app (goodIn_of _ (by decide +kernel)) ggX1_kind_X1_placeOf
set_option maxRecDepth 20000 in
theorem ggX1_kind_X1_kindAt : GoodIn wsX1_kind wsX1_kindAt := goodIn_ca (goodIn_r _ [23, 24, 8, 25, 26, 4, 27, 28, 29, 30, 31, 32, 33, 34, 13, 35, 36, 37, 38, 39, 40, 41, 42, 43, 44, 45, 46, 47, 17, 18, 19, 48, 49, 50, 51, 52, 53, 54, 55, 56, 14, 15, 16, 57, 58, 59, 60, 61, 62, 63, 64, 65, 66, 67, 68, 69, 70, 71, 72, 73, 74, 75, 76, 77, 78, 79, 80, 81, 82, 83, 84, 85, 86, 87, 88, 89, 90] rfl (by decide +kernel)) (goodIn_sub (fun _ h => List.mem_cons_of_mem _ (List.mem_append_left _ (List.mem_append_right _ h))) (by decide +kernel))
set_option maxRecDepth 20000 in
theorem gX1_kind_X1_kindAt : GoodIn wsX1_kind (wsV RX1 135 RX1 yX1_kindAt wsX1_kindAt) := goodIn_app (goodIn_of _ (by decide +kernel)) ggX1_kind_X1_kindAt
theorem dX1_kind_0 : decode cX1_kind 0 = .ok (.aload_n 0, 1) := by decide +kernel
theorem dX1_kind_1 : decode cX1_kind 1 = .ok (.iload_n 1, 1) := by decide +kernel
theorem dX1_kind_2 : decode cX1_kind 2 = .ok (.iload_n 2, 1) := by decide +kernel
theorem dX1_kind_3 : decode cX1_kind 3 = .ok (.invokevirtual 89, 3) := by decide +kernel
theorem dX1_kind_6 : decode cX1_kind 6 = .ok (.aload_n 0, 1) := by decide +kernel
theorem dX1_kind_7 : decode cX1_kind 7 = .ok (.iload_n 1, 1) := by decide +kernel
theorem dX1_kind_8 : decode cX1_kind 8 = .ok (.iload_n 2, 1) := by decide +kernel
theorem dX1_kind_9 : decode cX1_kind 9 = .ok (.invokestatic 80, 3) := by decide +kernel
theorem dX1_kind_12 : decode cX1_kind 12 = .ok (.invokevirtual 135, 3) := by decide +kernel
theorem dX1_kind_15 : decode cX1_kind 15 = .ok (.ireturn, 1) := by decide +kernel
set_option maxRecDepth 20000 in
theorem ggX1_signature_X1_requireMail : GoodIn wsX1_signature wsX1_requireMail := goodIn_ca (goodIn_r _ [5, 6, 7, 8, 9, 10, 4, 11, 34, 35, 36, 37, 38, 39, 40, 41, 42, 43, 44, 45] rfl (by decide +kernel)) (goodIn_sub (fun _ h => List.mem_cons_of_mem _ (List.mem_append_left _ (List.mem_append_right _ h))) (by decide +kernel))
set_option maxRecDepth 20000 in
theorem gX1_signature_X1_requireMail : GoodIn wsX1_signature (wsV RX1 74 RX1 yX1_requireMail wsX1_requireMail) := goodIn_app (goodIn_of _ (by decide +kernel)) ggX1_signature_X1_requireMail
set_option maxRecDepth 20000 in
theorem ggX1_signature_X1_signatureLength : GoodIn wsX1_signature wsX1_signatureLength := goodIn_ca (goodIn_r _ [15, 8, 16, 17, 18, 19, 20, 21, 22, 23, 4, 24, 25, 26, 27, 28, 29, 30, 31, 32, 33, 34, 35, 36, 37, 38, 39, 40, 41, 42, 43, 44, 45] rfl (by decide +kernel)) (goodIn_sub (fun _ h => List.mem_cons_of_mem _ (List.mem_append_right _ h)) (by decide +kernel))
set_option maxRecDepth 20000 in
theorem gX1_signature_X1_signatureLength : GoodIn wsX1_signature (wsV RX1 139 RX1 yX1_signatureLength wsX1_signatureLength) := goodIn_app (goodIn_of _ (by decide +kernel)) ggX1_signature_X1_signatureLength
theorem dX1_signature_0 : decode cX1_signature 0 = .ok (.aload_n 0, 1) := by decide +kernel
theorem dX1_signature_1 : decode cX1_signature 1 = .ok (.iload_n 1, 1) := by decide +kernel
theorem dX1_signature_2 : decode cX1_signature 2 = .ok (.invokevirtual 74, 3) := by decide +kernel
theorem dX1_signature_5 : decode cX1_signature 5 = .ok (.aload_n 0, 1) := by decide +kernel
theorem dX1_signature_6 : decode cX1_signature 6 = .ok (.iload_n 1, 1) := by decide +kernel
theorem dX1_signature_7 : decode cX1_signature 7 = .ok (.invokevirtual 139, 3) := by decide +kernel
theorem dX1_signature_10 : decode cX1_signature 10 = .ok (.ireturn, 1) := by decide +kernel
set_option maxRecDepth 20000 in
theorem ggX1_answersMail_X1_requireLine : GoodIn wsX1_answersMail wsX1_requireLine := goodIn_ca (goodIn_ca (goodIn_r _ [5, 6, 7, 8, 9, 10, 11, 4, 12, 13, 14, 15, 16, 99, 100, 101, 102, 103, 104, 105, 106, 107, 108, 109, 110] rfl (by decide +kernel)) (goodIn_sub (fun _ h => List.mem_cons_of_mem _ (List.mem_append_left _ (List.mem_append_left _ (List.mem_append_left _ (List.mem_append_right _ h))))) (by decide +kernel))) (goodIn_sub (fun _ h => List.mem_cons_of_mem _ (List.mem_append_left _ (List.mem_append_left _ (List.mem_append_right _ h)))) (by decide +kernel))
set_option maxRecDepth 20000 in
theorem gX1_answersMail_X1_requireLine : GoodIn wsX1_answersMail (wsV RX1 89 RX1 yX1_requireLine wsX1_requireLine) := goodIn_app (goodIn_of _ (by decide +kernel)) ggX1_answersMail_X1_requireLine
set_option maxRecDepth 20000 in
theorem ggX1_answersMail_X1_placeOf : GoodIn wsX1_answersMail wsX1_placeOf := goodIn_r _ [19] rfl (by decide +kernel)
set_option maxRecDepth 20000 in
theorem gX1_answersMail_X1_placeOf : GoodIn wsX1_answersMail (va_wsS RX1 80 yX1_placeOf wsX1_placeOf) := goodIn_app (goodIn_of _ (by decide +kernel)) ggX1_answersMail_X1_placeOf
set_option maxRecDepth 20000 in
theorem ggX1_answersMail_X1_requireAnswered : GoodIn wsX1_answersMail wsX1_requireAnswered := goodIn_ca (goodIn_ca (goodIn_ca (goodIn_r _ [23, 24, 25, 26, 27, 28, 29, 30, 4, 31, 32, 33, 34, 35, 8, 14, 15, 16, 36, 37, 38, 39, 40, 41, 42, 43, 44, 45, 46, 47, 48, 49, 50, 13, 51, 52, 53, 54, 55, 56, 57, 58, 59, 60, 61, 62, 63, 17, 18, 19, 64, 65, 66, 67, 68, 69, 70, 71, 72, 73, 74, 75, 76, 77, 78, 79, 80, 81, 82, 83, 84, 85, 86, 87, 88, 89, 90, 91, 92, 93, 94, 95, 96, 97, 98, 99, 100, 101, 102, 103, 104, 105, 106, 107, 108, 109, 110] rfl (by decide +kernel)) (goodIn_sub (fun _ h => List.mem_cons_of_mem _ (List.mem_append_left _ (List.mem_append_right _ h))) (by decide +kernel))) (goodIn_sub (fun _ h => List.mem_cons_of_mem _ (List.mem_append_right _ h)) (by decide +kernel))) (goodIn_sub (fun _ h => List.mem_cons_of_mem _ (List.mem_append_left _ (List.mem_append_left _ (List.mem_append_left _ (List.mem_append_right _ h))))) (by decide +kernel))
set_option maxRecDepth 20000 in
theorem gX1_answersMail_X1_requireAnswered : GoodIn wsX1_answersMail (wsV RX1 142 RX1 yX1_requireAnswered wsX1_requireAnswered) := goodIn_app (goodIn_of _ (by decide +kernel)) ggX1_answersMail_X1_requireAnswered
set_option maxRecDepth 20000 in
theorem ggX1_answersMail_X1_mailAt : GoodIn wsX1_answersMail wsX1_mailAt := goodIn_r _ [41] rfl (by decide +kernel)
set_option maxRecDepth 20000 in
theorem gX1_answersMail_X1_mailAt : GoodIn wsX1_answersMail (va_wsS RX1 132 yX1_mailAt wsX1_mailAt) := goodIn_app (goodIn_of _ (by decide +kernel)) ggX1_answersMail_X1_mailAt
theorem dX1_answersMail_0 : decode cX1_answersMail 0 = .ok (.aload_n 0, 1) := by decide +kernel
theorem dX1_answersMail_1 : decode cX1_answersMail 1 = .ok (.iload_n 1, 1) := by decide +kernel
theorem dX1_answersMail_2 : decode cX1_answersMail 2 = .ok (.iload_n 2, 1) := by decide +kernel
theorem dX1_answersMail_3 : decode cX1_answersMail 3 = .ok (.invokevirtual 89, 3) := by decide +kernel
theorem dX1_answersMail_6 : decode cX1_answersMail 6 = .ok (.aload_n 0, 1) := by decide +kernel
theorem dX1_answersMail_7 : decode cX1_answersMail 7 = .ok (.iload_n 1, 1) := by decide +kernel
theorem dX1_answersMail_8 : decode cX1_answersMail 8 = .ok (.iload_n 2, 1) := by decide +kernel
theorem dX1_answersMail_9 : decode cX1_answersMail 9 = .ok (.invokestatic 80, 3) := by decide +kernel
theorem dX1_answersMail_12 : decode cX1_answersMail 12 = .ok (.invokevirtual 142, 3) := by decide +kernel
theorem dX1_answersMail_15 : decode cX1_answersMail 15 = .ok (.invokestatic 132, 3) := by decide +kernel
theorem dX1_answersMail_18 : decode cX1_answersMail 18 = .ok (.ireturn, 1) := by decide +kernel
set_option maxRecDepth 20000 in
theorem ggX1_answersLine_X1_requireLine : GoodIn wsX1_answersLine wsX1_requireLine := goodIn_ca (goodIn_ca (goodIn_r _ [5, 6, 7, 8, 9, 10, 11, 4, 12, 13, 14, 15, 16, 99, 100, 101, 102, 103, 104, 105, 106, 107, 108, 109, 110] rfl (by decide +kernel)) (goodIn_sub (fun _ h => List.mem_cons_of_mem _ (List.mem_append_left _ (List.mem_append_left _ (List.mem_append_left _ (List.mem_append_right _ h))))) (by decide +kernel))) (goodIn_sub (fun _ h => List.mem_cons_of_mem _ (List.mem_append_left _ (List.mem_append_left _ (List.mem_append_right _ h)))) (by decide +kernel))
set_option maxRecDepth 20000 in
theorem gX1_answersLine_X1_requireLine : GoodIn wsX1_answersLine (wsV RX1 89 RX1 yX1_requireLine wsX1_requireLine) := goodIn_app (goodIn_of _ (by decide +kernel)) ggX1_answersLine_X1_requireLine
set_option maxRecDepth 20000 in
theorem ggX1_answersLine_X1_placeOf : GoodIn wsX1_answersLine wsX1_placeOf := goodIn_r _ [19] rfl (by decide +kernel)
set_option maxRecDepth 20000 in
theorem gX1_answersLine_X1_placeOf : GoodIn wsX1_answersLine (va_wsS RX1 80 yX1_placeOf wsX1_placeOf) := goodIn_app (goodIn_of _ (by decide +kernel)) ggX1_answersLine_X1_placeOf
set_option maxRecDepth 20000 in
theorem ggX1_answersLine_X1_requireAnswered : GoodIn wsX1_answersLine wsX1_requireAnswered := goodIn_ca (goodIn_ca (goodIn_ca (goodIn_r _ [23, 24, 25, 26, 27, 28, 29, 30, 4, 31, 32, 33, 34, 35, 8, 14, 15, 16, 36, 37, 38, 39, 40, 41, 42, 43, 44, 45, 46, 47, 48, 49, 50, 13, 51, 52, 53, 54, 55, 56, 57, 58, 59, 60, 61, 62, 63, 17, 18, 19, 64, 65, 66, 67, 68, 69, 70, 71, 72, 73, 74, 75, 76, 77, 78, 79, 80, 81, 82, 83, 84, 85, 86, 87, 88, 89, 90, 91, 92, 93, 94, 95, 96, 97, 98, 99, 100, 101, 102, 103, 104, 105, 106, 107, 108, 109, 110] rfl (by decide +kernel)) (goodIn_sub (fun _ h => List.mem_cons_of_mem _ (List.mem_append_left _ (List.mem_append_right _ h))) (by decide +kernel))) (goodIn_sub (fun _ h => List.mem_cons_of_mem _ (List.mem_append_right _ h)) (by decide +kernel))) (goodIn_sub (fun _ h => List.mem_cons_of_mem _ (List.mem_append_left _ (List.mem_append_left _ (List.mem_append_left _ (List.mem_append_right _ h))))) (by decide +kernel))
set_option maxRecDepth 20000 in
theorem gX1_answersLine_X1_requireAnswered : GoodIn wsX1_answersLine (wsV RX1 142 RX1 yX1_requireAnswered wsX1_requireAnswered) := goodIn_app (goodIn_of _ (by decide +kernel)) ggX1_answersLine_X1_requireAnswered
set_option maxRecDepth 20000 in
theorem ggX1_answersLine_X1_lineAt : GoodIn wsX1_answersLine wsX1_lineAt := goodIn_r _ [38] rfl (by decide +kernel)
set_option maxRecDepth 20000 in
theorem gX1_answersLine_X1_lineAt : GoodIn wsX1_answersLine (va_wsS RX1 126 yX1_lineAt wsX1_lineAt) := goodIn_app (goodIn_of _ (by decide +kernel)) ggX1_answersLine_X1_lineAt
theorem dX1_answersLine_0 : decode cX1_answersLine 0 = .ok (.aload_n 0, 1) := by decide +kernel
theorem dX1_answersLine_1 : decode cX1_answersLine 1 = .ok (.iload_n 1, 1) := by decide +kernel
theorem dX1_answersLine_2 : decode cX1_answersLine 2 = .ok (.iload_n 2, 1) := by decide +kernel
theorem dX1_answersLine_3 : decode cX1_answersLine 3 = .ok (.invokevirtual 89, 3) := by decide +kernel
theorem dX1_answersLine_6 : decode cX1_answersLine 6 = .ok (.aload_n 0, 1) := by decide +kernel
theorem dX1_answersLine_7 : decode cX1_answersLine 7 = .ok (.iload_n 1, 1) := by decide +kernel
theorem dX1_answersLine_8 : decode cX1_answersLine 8 = .ok (.iload_n 2, 1) := by decide +kernel
theorem dX1_answersLine_9 : decode cX1_answersLine 9 = .ok (.invokestatic 80, 3) := by decide +kernel
theorem dX1_answersLine_12 : decode cX1_answersLine 12 = .ok (.invokevirtual 142, 3) := by decide +kernel
theorem dX1_answersLine_15 : decode cX1_answersLine 15 = .ok (.invokestatic 126, 3) := by decide +kernel
theorem dX1_answersLine_18 : decode cX1_answersLine 18 = .ok (.ireturn, 1) := by decide +kernel
set_option maxRecDepth 20000 in
theorem ggX1_answers_X1_requireLine : GoodIn wsX1_answers wsX1_requireLine := goodIn_ca (goodIn_ca (goodIn_r _ [5, 6, 7, 8, 9, 10, 11, 4, 12, 13, 14, 15, 16, 91, 92, 93, 94, 95, 96, 97, 98, 99, 100, 101, 102] rfl (by decide +kernel)) (goodIn_sub (fun _ h => List.mem_cons_of_mem _ (List.mem_append_left _ (List.mem_append_right _ h))) (by decide +kernel))) (goodIn_sub (fun _ h => List.mem_cons_of_mem _ (List.mem_append_right _ h)) (by decide +kernel))
set_option maxRecDepth 20000 in
theorem gX1_answers_X1_requireLine : GoodIn wsX1_answers (wsV RX1 89 RX1 yX1_requireLine wsX1_requireLine) := goodIn_app (goodIn_of _ (by decide +kernel)) ggX1_answers_X1_requireLine
set_option maxRecDepth 20000 in
theorem ggX1_answers_X1_placeOf : GoodIn wsX1_answers wsX1_placeOf := goodIn_r _ [19] rfl (by decide +kernel)
set_option maxRecDepth 20000 in
theorem gX1_answers_X1_placeOf : GoodIn wsX1_answers (va_wsS RX1 80 yX1_placeOf wsX1_placeOf) := goodIn_app (goodIn_of _ (by decide +kernel)) ggX1_answers_X1_placeOf
set_option maxRecDepth 20000 in
theorem ggX1_answers_X1_isNew : GoodIn wsX1_answers wsX1_isNew := goodIn_ca (goodIn_r _ [23, 24, 25, 26, 4, 27, 8, 14, 15, 16, 28, 29, 30, 31, 32, 33, 34, 35, 36, 37, 38, 39, 40, 41, 42, 13, 43, 44, 45, 46, 47, 48, 49, 50, 51, 52, 53, 54, 55, 17, 18, 19, 56, 57, 58, 59, 60, 61, 62, 63, 64, 65, 66, 67, 68, 69, 70, 71, 72, 73, 74, 75, 76, 77, 78, 79, 80, 81, 82, 91, 92, 93, 94, 95, 96, 97, 98, 99, 100, 101, 102] rfl (by decide +kernel)) (goodIn_sub (fun _ h => List.mem_cons_of_mem _ (List.mem_append_left _ (List.mem_append_right _ h))) (by decide +kernel))
set_option maxRecDepth 20000 in
theorem gX1_answers_X1_isNew : GoodIn wsX1_answers (wsV RX1 145 RX1 yX1_isNew wsX1_isNew) := goodIn_app (goodIn_of _ (by decide +kernel)) ggX1_answers_X1_isNew
set_option maxRecDepth 20000 in
theorem ggX1_answers_X1_answeredBy : GoodIn wsX1_answers wsX1_answeredBy := goodIn_ca (goodIn_r _ [86, 31, 32, 4, 33, 17, 18, 19, 56, 57, 58, 59, 60, 24, 25, 26, 27, 8, 14, 15, 16, 28, 29, 30, 87, 88, 89, 90, 91, 92, 93, 94, 95, 96, 97, 98, 99, 100, 101, 102] rfl (by decide +kernel)) (goodIn_sub (fun _ h => List.mem_cons_of_mem _ (List.mem_append_left _ (List.mem_append_right _ h))) (by decide +kernel))
set_option maxRecDepth 20000 in
theorem gX1_answers_X1_answeredBy : GoodIn wsX1_answers (wsV RX1 148 RX1 yX1_answeredBy wsX1_answeredBy) := goodIn_app (goodIn_of _ (by decide +kernel)) ggX1_answers_X1_answeredBy
theorem dX1_answers_0 : decode cX1_answers 0 = .ok (.aload_n 0, 1) := by decide +kernel
theorem dX1_answers_1 : decode cX1_answers 1 = .ok (.iload_n 1, 1) := by decide +kernel
theorem dX1_answers_2 : decode cX1_answers 2 = .ok (.iload_n 2, 1) := by decide +kernel
theorem dX1_answers_3 : decode cX1_answers 3 = .ok (.invokevirtual 89, 3) := by decide +kernel
theorem dX1_answers_6 : decode cX1_answers 6 = .ok (.iload_n 1, 1) := by decide +kernel
theorem dX1_answers_7 : decode cX1_answers 7 = .ok (.iload_n 2, 1) := by decide +kernel
theorem dX1_answers_8 : decode cX1_answers 8 = .ok (.invokestatic 80, 3) := by decide +kernel
theorem dX1_answers_11 : decode cX1_answers 11 = .ok (.istore_n 3, 1) := by decide +kernel
theorem dX1_answers_12 : decode cX1_answers 12 = .ok (.iconst 0, 1) := by decide +kernel
theorem dX1_answers_13 : decode cX1_answers 13 = .ok (.istore 4, 2) := by decide +kernel
theorem dX1_answers_15 : decode cX1_answers 15 = .ok (.iconst 0, 1) := by decide +kernel
theorem dX1_answers_16 : decode cX1_answers 16 = .ok (.istore 5, 2) := by decide +kernel
theorem dX1_answers_18 : decode cX1_answers 18 = .ok (.iload 5, 2) := by decide +kernel
theorem dX1_answers_20 : decode cX1_answers 20 = .ok (.bipush 80, 2) := by decide +kernel
theorem dX1_answers_22 : decode cX1_answers 22 = .ok (.if_icmp .ge 31, 3) := by decide +kernel
theorem dX1_answers_25 : decode cX1_answers 25 = .ok (.aload_n 0, 1) := by decide +kernel
theorem dX1_answers_26 : decode cX1_answers 26 = .ok (.iload 5, 2) := by decide +kernel
theorem dX1_answers_28 : decode cX1_answers 28 = .ok (.invokevirtual 145, 3) := by decide +kernel
theorem dX1_answers_31 : decode cX1_answers 31 = .ok (.ifCond .eq 16, 3) := by decide +kernel
theorem dX1_answers_34 : decode cX1_answers 34 = .ok (.aload_n 0, 1) := by decide +kernel
theorem dX1_answers_35 : decode cX1_answers 35 = .ok (.iload 5, 2) := by decide +kernel
theorem dX1_answers_37 : decode cX1_answers 37 = .ok (.invokevirtual 148, 3) := by decide +kernel
theorem dX1_answers_40 : decode cX1_answers 40 = .ok (.iload_n 3, 1) := by decide +kernel
theorem dX1_answers_41 : decode cX1_answers 41 = .ok (.if_icmp .ne 6, 3) := by decide +kernel
theorem dX1_answers_44 : decode cX1_answers 44 = .ok (.iinc 4 1, 3) := by decide +kernel
theorem dX1_answers_47 : decode cX1_answers 47 = .ok (.iinc 5 1, 3) := by decide +kernel
theorem dX1_answers_50 : decode cX1_answers 50 = .ok (.goto (-32), 3) := by decide +kernel
theorem dX1_answers_53 : decode cX1_answers 53 = .ok (.iload 4, 2) := by decide +kernel
theorem dX1_answers_55 : decode cX1_answers 55 = .ok (.ireturn, 1) := by decide +kernel
set_option maxRecDepth 20000 in
theorem ggX1_talk_X1_isInTalk : GoodIn wsX1_talk wsX1_isInTalk := goodIn_ca (goodIn_r _ [5, 6, 7, 8, 4, 9, 10, 11, 12, 13, 14, 15, 16, 17, 18, 19, 20, 21, 22, 23, 24, 25, 26, 27, 28, 29, 30, 31, 32, 33, 34, 35, 36, 37, 38, 39, 40, 41, 42, 43, 44, 45, 46, 47, 48, 49, 50, 51, 52, 53, 54, 55, 56, 57, 58, 59, 60, 61, 62, 63, 64, 65, 66, 67, 68, 69, 70, 71, 72, 73, 74, 75, 76, 77, 78, 79, 80, 81, 82, 83, 84] rfl (by decide +kernel)) (goodIn_sub (fun _ h => List.mem_cons_of_mem _ (List.mem_append_right _ h)) (by decide +kernel))
set_option maxRecDepth 20000 in
theorem gX1_talk_X1_isInTalk : GoodIn wsX1_talk (wsV RX1 151 RX1 yX1_isInTalk wsX1_isInTalk) := goodIn_app (goodIn_of _ (by decide +kernel)) ggX1_talk_X1_isInTalk
theorem dX1_talk_0 : decode cX1_talk 0 = .ok (.iconst 0, 1) := by decide +kernel
theorem dX1_talk_1 : decode cX1_talk 1 = .ok (.istore_n 1, 1) := by decide +kernel
theorem dX1_talk_2 : decode cX1_talk 2 = .ok (.iconst 0, 1) := by decide +kernel
theorem dX1_talk_3 : decode cX1_talk 3 = .ok (.istore_n 2, 1) := by decide +kernel
theorem dX1_talk_4 : decode cX1_talk 4 = .ok (.iload_n 2, 1) := by decide +kernel
theorem dX1_talk_5 : decode cX1_talk 5 = .ok (.bipush 80, 2) := by decide +kernel
theorem dX1_talk_7 : decode cX1_talk 7 = .ok (.if_icmp .ge 20, 3) := by decide +kernel
theorem dX1_talk_10 : decode cX1_talk 10 = .ok (.aload_n 0, 1) := by decide +kernel
theorem dX1_talk_11 : decode cX1_talk 11 = .ok (.iload_n 2, 1) := by decide +kernel
theorem dX1_talk_12 : decode cX1_talk 12 = .ok (.invokevirtual 151, 3) := by decide +kernel
theorem dX1_talk_15 : decode cX1_talk 15 = .ok (.ifCond .eq 6, 3) := by decide +kernel
theorem dX1_talk_18 : decode cX1_talk 18 = .ok (.iinc 1 1, 3) := by decide +kernel
theorem dX1_talk_21 : decode cX1_talk 21 = .ok (.iinc 2 1, 3) := by decide +kernel
theorem dX1_talk_24 : decode cX1_talk 24 = .ok (.goto (-20), 3) := by decide +kernel
theorem dX1_talk_27 : decode cX1_talk 27 = .ok (.iload_n 1, 1) := by decide +kernel
theorem dX1_talk_28 : decode cX1_talk 28 = .ok (.ireturn, 1) := by decide +kernel
set_option maxRecDepth 20000 in
theorem ggX1_talkByOrigins_X1_isLine : GoodIn wsX1_talkByOrigins wsX1_isLine := goodIn_ca (goodIn_r _ [6, 7, 8, 9, 5, 10, 11, 12, 13, 14, 15, 16, 82, 83, 84, 85, 86, 87, 88, 89, 90, 91, 92, 93] rfl (by decide +kernel)) (goodIn_sub (fun _ h => List.mem_cons_of_mem _ (List.mem_append_right _ h)) (by decide +kernel))
set_option maxRecDepth 20000 in
theorem gX1_talkByOrigins_X1_isLine : GoodIn wsX1_talkByOrigins (wsV RX1 154 RX1 yX1_isLine wsX1_isLine) := goodIn_app (goodIn_of _ (by decide +kernel)) ggX1_talkByOrigins_X1_isLine
set_option maxRecDepth 20000 in
theorem ggX1_talkByOrigins_X1_originOf : GoodIn wsX1_talkByOrigins wsX1_originOf := goodIn_ca (goodIn_r _ [20, 21, 22, 23, 24, 5, 25, 2, 3, 4, 6, 7, 8, 9, 10, 11, 12, 13, 14, 15, 16, 82, 83, 84, 85, 86, 87, 88, 89, 90, 91, 92, 93] rfl (by decide +kernel)) (goodIn_sub (fun _ h => List.mem_cons_of_mem _ (List.mem_append_right _ h)) (by decide +kernel))
set_option maxRecDepth 20000 in
theorem gX1_talkByOrigins_X1_originOf : GoodIn wsX1_talkByOrigins (wsV RX1 129 RX1 yX1_originOf wsX1_originOf) := goodIn_app (goodIn_of _ (by decide +kernel)) ggX1_talkByOrigins_X1_originOf
set_option maxRecDepth 20000 in
theorem ggX1_talkByOrigins_X1_countOnce : GoodIn wsX1_talkByOrigins wsX1_countOnce := goodIn_ca (goodIn_r _ [29, 1, 30, 31, 32, 5, 33, 2, 3, 4, 6, 7, 8, 9, 10, 11, 12, 13, 14, 15, 16, 34, 35, 36, 37, 38, 39, 40, 41, 42, 43, 44, 45, 46, 47, 48, 49, 50, 51, 52, 53, 54, 55, 56, 57, 58, 59, 22, 23, 24, 25, 21, 60, 61, 62, 63, 64, 65, 66, 67, 68, 69, 70, 71, 72, 73, 74, 75, 76, 77, 78, 79, 80, 81, 82, 83, 84, 85, 86, 87, 88, 89, 90, 91, 92, 93] rfl (by decide +kernel)) (goodIn_sub (fun _ h => List.mem_cons_of_mem _ (List.mem_append_right _ h)) (by decide +kernel))
set_option maxRecDepth 20000 in
theorem gX1_talkByOrigins_X1_countOnce : GoodIn wsX1_talkByOrigins (wsV RX1 157 RX1 yX1_countOnce wsX1_countOnce) := goodIn_app (goodIn_of _ (by decide +kernel)) ggX1_talkByOrigins_X1_countOnce
theorem dX1_talkByOrigins_0 : decode cX1_talkByOrigins 0 = .ok (.iconst 0, 1) := by decide +kernel
theorem dX1_talkByOrigins_1 : decode cX1_talkByOrigins 1 = .ok (.istore_n 1, 1) := by decide +kernel
theorem dX1_talkByOrigins_2 : decode cX1_talkByOrigins 2 = .ok (.iload_n 1, 1) := by decide +kernel
theorem dX1_talkByOrigins_3 : decode cX1_talkByOrigins 3 = .ok (.bipush 80, 2) := by decide +kernel
theorem dX1_talkByOrigins_5 : decode cX1_talkByOrigins 5 = .ok (.if_icmp .ge 16, 3) := by decide +kernel
theorem dX1_talkByOrigins_8 : decode cX1_talkByOrigins 8 = .ok (.aload_n 0, 1) := by decide +kernel
theorem dX1_talkByOrigins_9 : decode cX1_talkByOrigins 9 = .ok (.getfield 45, 3) := by decide +kernel
theorem dX1_talkByOrigins_12 : decode cX1_talkByOrigins 12 = .ok (.iload_n 1, 1) := by decide +kernel
theorem dX1_talkByOrigins_13 : decode cX1_talkByOrigins 13 = .ok (.iconst 0, 1) := by decide +kernel
theorem dX1_talkByOrigins_14 : decode cX1_talkByOrigins 14 = .ok (.bastore, 1) := by decide +kernel
theorem dX1_talkByOrigins_15 : decode cX1_talkByOrigins 15 = .ok (.iinc 1 1, 3) := by decide +kernel
theorem dX1_talkByOrigins_18 : decode cX1_talkByOrigins 18 = .ok (.goto (-16), 3) := by decide +kernel
theorem dX1_talkByOrigins_21 : decode cX1_talkByOrigins 21 = .ok (.iconst 0, 1) := by decide +kernel
theorem dX1_talkByOrigins_22 : decode cX1_talkByOrigins 22 = .ok (.istore_n 1, 1) := by decide +kernel
theorem dX1_talkByOrigins_23 : decode cX1_talkByOrigins 23 = .ok (.iconst 0, 1) := by decide +kernel
theorem dX1_talkByOrigins_24 : decode cX1_talkByOrigins 24 = .ok (.istore_n 2, 1) := by decide +kernel
theorem dX1_talkByOrigins_25 : decode cX1_talkByOrigins 25 = .ok (.iload_n 2, 1) := by decide +kernel
theorem dX1_talkByOrigins_26 : decode cX1_talkByOrigins 26 = .ok (.bipush 80, 2) := by decide +kernel
theorem dX1_talkByOrigins_28 : decode cX1_talkByOrigins 28 = .ok (.if_icmp .ge 32, 3) := by decide +kernel
theorem dX1_talkByOrigins_31 : decode cX1_talkByOrigins 31 = .ok (.aload_n 0, 1) := by decide +kernel
theorem dX1_talkByOrigins_32 : decode cX1_talkByOrigins 32 = .ok (.iload_n 2, 1) := by decide +kernel
theorem dX1_talkByOrigins_33 : decode cX1_talkByOrigins 33 = .ok (.invokevirtual 154, 3) := by decide +kernel
theorem dX1_talkByOrigins_36 : decode cX1_talkByOrigins 36 = .ok (.ifCond .eq 18, 3) := by decide +kernel
theorem dX1_talkByOrigins_39 : decode cX1_talkByOrigins 39 = .ok (.aload_n 0, 1) := by decide +kernel
theorem dX1_talkByOrigins_40 : decode cX1_talkByOrigins 40 = .ok (.aload_n 0, 1) := by decide +kernel
theorem dX1_talkByOrigins_41 : decode cX1_talkByOrigins 41 = .ok (.iload_n 2, 1) := by decide +kernel
theorem dX1_talkByOrigins_42 : decode cX1_talkByOrigins 42 = .ok (.invokevirtual 129, 3) := by decide +kernel
theorem dX1_talkByOrigins_45 : decode cX1_talkByOrigins 45 = .ok (.invokevirtual 157, 3) := by decide +kernel
theorem dX1_talkByOrigins_48 : decode cX1_talkByOrigins 48 = .ok (.ifCond .eq 6, 3) := by decide +kernel
theorem dX1_talkByOrigins_51 : decode cX1_talkByOrigins 51 = .ok (.iinc 1 1, 3) := by decide +kernel
theorem dX1_talkByOrigins_54 : decode cX1_talkByOrigins 54 = .ok (.iinc 2 1, 3) := by decide +kernel
theorem dX1_talkByOrigins_57 : decode cX1_talkByOrigins 57 = .ok (.goto (-32), 3) := by decide +kernel
theorem dX1_talkByOrigins_60 : decode cX1_talkByOrigins 60 = .ok (.iload_n 1, 1) := by decide +kernel
theorem dX1_talkByOrigins_61 : decode cX1_talkByOrigins 61 = .ok (.ireturn, 1) := by decide +kernel
set_option maxRecDepth 20000 in
theorem ggX1_copies_X1_requireLine : GoodIn wsX1_copies wsX1_requireLine := goodIn_ca (goodIn_ca (goodIn_r _ [7, 8, 9, 10, 11, 12, 13, 6, 14, 15, 16, 17, 18, 89, 90, 91, 92, 93, 94, 95, 96, 97, 98, 99, 100] rfl (by decide +kernel)) (goodIn_sub (fun _ h => List.mem_cons_of_mem _ (List.mem_append_left _ (List.mem_append_right _ h))) (by decide +kernel))) (goodIn_sub (fun _ h => List.mem_cons_of_mem _ (List.mem_append_right _ h)) (by decide +kernel))
set_option maxRecDepth 20000 in
theorem gX1_copies_X1_requireLine : GoodIn wsX1_copies (wsV RX1 89 RX1 yX1_requireLine wsX1_requireLine) := goodIn_app (goodIn_of _ (by decide +kernel)) ggX1_copies_X1_requireLine
set_option maxRecDepth 20000 in
theorem ggX1_copies_X1_placeOf : GoodIn wsX1_copies wsX1_placeOf := goodIn_r _ [21] rfl (by decide +kernel)
set_option maxRecDepth 20000 in
theorem gX1_copies_X1_placeOf : GoodIn wsX1_copies (va_wsS RX1 80 yX1_placeOf wsX1_placeOf) := goodIn_app (goodIn_of _ (by decide +kernel)) ggX1_copies_X1_placeOf
set_option maxRecDepth 20000 in
theorem ggX1_copies_X1_isInTalk : GoodIn wsX1_copies wsX1_isInTalk := goodIn_ca (goodIn_r _ [25, 26, 27, 28, 6, 29, 10, 16, 17, 18, 30, 31, 32, 33, 34, 35, 36, 37, 38, 39, 40, 41, 42, 43, 44, 15, 45, 46, 47, 48, 49, 50, 51, 52, 53, 54, 55, 56, 57, 19, 20, 21, 58, 59, 60, 61, 62, 63, 64, 65, 66, 67, 68, 69, 70, 71, 72, 73, 74, 75, 76, 77, 78, 79, 80, 81, 82, 83, 84, 89, 90, 91, 92, 93, 94, 95, 96, 97, 98, 99, 100] rfl (by decide +kernel)) (goodIn_sub (fun _ h => List.mem_cons_of_mem _ (List.mem_append_left _ (List.mem_append_right _ h))) (by decide +kernel))
set_option maxRecDepth 20000 in
theorem gX1_copies_X1_isInTalk : GoodIn wsX1_copies (wsV RX1 151 RX1 yX1_isInTalk wsX1_isInTalk) := goodIn_app (goodIn_of _ (by decide +kernel)) ggX1_copies_X1_isInTalk
set_option maxRecDepth 20000 in
theorem ggX1_copies_X1_isLine : GoodIn wsX1_copies wsX1_isLine := goodIn_ca (goodIn_r _ [29, 10, 16, 17, 6, 18, 30, 31, 32, 33, 34, 35, 89, 90, 91, 92, 93, 94, 95, 96, 97, 98, 99, 100] rfl (by decide +kernel)) (goodIn_sub (fun _ h => List.mem_cons_of_mem _ (List.mem_append_left _ (List.mem_append_right _ h))) (by decide +kernel))
set_option maxRecDepth 20000 in
theorem gX1_copies_X1_isLine : GoodIn wsX1_copies (wsV RX1 154 RX1 yX1_isLine wsX1_isLine) := goodIn_app (goodIn_of _ (by decide +kernel)) ggX1_copies_X1_isLine
set_option maxRecDepth 20000 in
theorem ggX1_copies_X1_originOf : GoodIn wsX1_copies wsX1_originOf := goodIn_ca (goodIn_r _ [88, 62, 58, 59, 60, 6, 61, 26, 27, 28, 29, 10, 16, 17, 18, 30, 31, 32, 33, 34, 35, 89, 90, 91, 92, 93, 94, 95, 96, 97, 98, 99, 100] rfl (by decide +kernel)) (goodIn_sub (fun _ h => List.mem_cons_of_mem _ (List.mem_append_left _ (List.mem_append_right _ h))) (by decide +kernel))
set_option maxRecDepth 20000 in
theorem gX1_copies_X1_originOf : GoodIn wsX1_copies (wsV RX1 129 RX1 yX1_originOf wsX1_originOf) := goodIn_app (goodIn_of _ (by decide +kernel)) ggX1_copies_X1_originOf
theorem dX1_copies_0 : decode cX1_copies 0 = .ok (.aload_n 0, 1) := by decide +kernel
theorem dX1_copies_1 : decode cX1_copies 1 = .ok (.iload_n 1, 1) := by decide +kernel
theorem dX1_copies_2 : decode cX1_copies 2 = .ok (.iload_n 2, 1) := by decide +kernel
theorem dX1_copies_3 : decode cX1_copies 3 = .ok (.invokevirtual 89, 3) := by decide +kernel
theorem dX1_copies_6 : decode cX1_copies 6 = .ok (.iload_n 1, 1) := by decide +kernel
theorem dX1_copies_7 : decode cX1_copies 7 = .ok (.iload_n 2, 1) := by decide +kernel
theorem dX1_copies_8 : decode cX1_copies 8 = .ok (.invokestatic 80, 3) := by decide +kernel
theorem dX1_copies_11 : decode cX1_copies 11 = .ok (.istore_n 3, 1) := by decide +kernel
theorem dX1_copies_12 : decode cX1_copies 12 = .ok (.aload_n 0, 1) := by decide +kernel
theorem dX1_copies_13 : decode cX1_copies 13 = .ok (.iload_n 3, 1) := by decide +kernel
theorem dX1_copies_14 : decode cX1_copies 14 = .ok (.invokevirtual 151, 3) := by decide +kernel
theorem dX1_copies_17 : decode cX1_copies 17 = .ok (.ifCond .ne 13, 3) := by decide +kernel
theorem dX1_copies_20 : decode cX1_copies 20 = .ok (.new 160, 3) := by decide +kernel
theorem dX1_copies_23 : decode cX1_copies 23 = .ok (.dup, 1) := by decide +kernel
theorem dX1_copies_24 : decode cX1_copies 24 = .ok (.ldc 162, 2) := by decide +kernel
theorem dX1_copies_26 : decode cX1_copies 26 = .ok (.invokespecial 164, 3) := by decide +kernel
theorem dX1_copies_29 : decode cX1_copies 29 = .ok (.athrow, 1) := by decide +kernel
theorem dX1_copies_30 : decode cX1_copies 30 = .ok (.iconst 0, 1) := by decide +kernel
theorem dX1_copies_31 : decode cX1_copies 31 = .ok (.istore 4, 2) := by decide +kernel
theorem dX1_copies_33 : decode cX1_copies 33 = .ok (.iconst 0, 1) := by decide +kernel
theorem dX1_copies_34 : decode cX1_copies 34 = .ok (.istore 5, 2) := by decide +kernel
theorem dX1_copies_36 : decode cX1_copies 36 = .ok (.iload 5, 2) := by decide +kernel
theorem dX1_copies_38 : decode cX1_copies 38 = .ok (.bipush 80, 2) := by decide +kernel
theorem dX1_copies_40 : decode cX1_copies 40 = .ok (.if_icmp .ge 31, 3) := by decide +kernel
theorem dX1_copies_43 : decode cX1_copies 43 = .ok (.aload_n 0, 1) := by decide +kernel
theorem dX1_copies_44 : decode cX1_copies 44 = .ok (.iload 5, 2) := by decide +kernel
theorem dX1_copies_46 : decode cX1_copies 46 = .ok (.invokevirtual 154, 3) := by decide +kernel
theorem dX1_copies_49 : decode cX1_copies 49 = .ok (.ifCond .eq 16, 3) := by decide +kernel
theorem dX1_copies_52 : decode cX1_copies 52 = .ok (.aload_n 0, 1) := by decide +kernel
theorem dX1_copies_53 : decode cX1_copies 53 = .ok (.iload 5, 2) := by decide +kernel
theorem dX1_copies_55 : decode cX1_copies 55 = .ok (.invokevirtual 129, 3) := by decide +kernel
theorem dX1_copies_58 : decode cX1_copies 58 = .ok (.iload_n 3, 1) := by decide +kernel
theorem dX1_copies_59 : decode cX1_copies 59 = .ok (.if_icmp .ne 6, 3) := by decide +kernel
theorem dX1_copies_62 : decode cX1_copies 62 = .ok (.iinc 4 1, 3) := by decide +kernel
theorem dX1_copies_65 : decode cX1_copies 65 = .ok (.iinc 5 1, 3) := by decide +kernel
theorem dX1_copies_68 : decode cX1_copies 68 = .ok (.goto (-32), 3) := by decide +kernel
theorem dX1_copies_71 : decode cX1_copies 71 = .ok (.iload 4, 2) := by decide +kernel
theorem dX1_copies_73 : decode cX1_copies 73 = .ok (.ireturn, 1) := by decide +kernel
set_option maxRecDepth 20000 in
theorem ggX1_root_X1_requireMail : GoodIn wsX1_root wsX1_requireMail := goodIn_ca (goodIn_r _ [5, 6, 7, 8, 9, 10, 4, 11, 31, 32, 33, 34, 35, 36, 37, 38, 39, 40, 41, 42] rfl (by decide +kernel)) (goodIn_sub (fun _ h => List.mem_cons_of_mem _ (List.mem_append_left _ (List.mem_append_right _ h))) (by decide +kernel))
set_option maxRecDepth 20000 in
theorem gX1_root_X1_requireMail : GoodIn wsX1_root (wsV RX1 74 RX1 yX1_requireMail wsX1_requireMail) := goodIn_app (goodIn_of _ (by decide +kernel)) ggX1_root_X1_requireMail
set_option maxRecDepth 20000 in
theorem ggX1_root_X1_rootOf : GoodIn wsX1_root wsX1_rootOf := goodIn_ca (goodIn_r _ [15, 8, 16, 17, 18, 4, 19, 20, 21, 22, 23, 24, 25, 26, 27, 28, 29, 30, 31, 32, 33, 34, 35, 36, 37, 38, 39, 40, 41, 42] rfl (by decide +kernel)) (goodIn_sub (fun _ h => List.mem_cons_of_mem _ (List.mem_append_right _ h)) (by decide +kernel))
set_option maxRecDepth 20000 in
theorem gX1_root_X1_rootOf : GoodIn wsX1_root (wsV RX1 165 RX1 yX1_rootOf wsX1_rootOf) := goodIn_app (goodIn_of _ (by decide +kernel)) ggX1_root_X1_rootOf
theorem dX1_root_0 : decode cX1_root 0 = .ok (.aload_n 0, 1) := by decide +kernel
theorem dX1_root_1 : decode cX1_root 1 = .ok (.iload_n 1, 1) := by decide +kernel
theorem dX1_root_2 : decode cX1_root 2 = .ok (.invokevirtual 74, 3) := by decide +kernel
theorem dX1_root_5 : decode cX1_root 5 = .ok (.aload_n 0, 1) := by decide +kernel
theorem dX1_root_6 : decode cX1_root 6 = .ok (.iload_n 1, 1) := by decide +kernel
theorem dX1_root_7 : decode cX1_root 7 = .ok (.invokevirtual 165, 3) := by decide +kernel
theorem dX1_root_10 : decode cX1_root 10 = .ok (.ireturn, 1) := by decide +kernel
set_option maxRecDepth 20000 in
theorem ggX1_rootByRounds_X1_requireMail : GoodIn wsX1_rootByRounds wsX1_requireMail := goodIn_ca (goodIn_r _ [7, 8, 9, 1, 10, 11, 6, 12, 32, 33, 34, 35, 36, 37, 38, 39, 40, 41, 42, 43] rfl (by decide +kernel)) (goodIn_sub (fun _ h => List.mem_cons_of_mem _ (List.mem_append_right _ h)) (by decide +kernel))
set_option maxRecDepth 20000 in
theorem gX1_rootByRounds_X1_requireMail : GoodIn wsX1_rootByRounds (wsV RX1 74 RX1 yX1_requireMail wsX1_requireMail) := goodIn_app (goodIn_of _ (by decide +kernel)) ggX1_rootByRounds_X1_requireMail
set_option maxRecDepth 20000 in
theorem ggX1_rootByRounds_X1_takeRootsOfParents : GoodIn wsX1_rootByRounds wsX1_takeRootsOfParents := goodIn_ca (goodIn_r _ [16, 1, 2, 17, 18, 19, 6, 20, 21, 22, 23, 24, 25, 26, 27, 28, 29, 30, 31, 32, 33, 34, 35, 36, 37, 38, 39, 40, 41, 42, 43] rfl (by decide +kernel)) (goodIn_sub (fun _ h => List.mem_cons_of_mem _ (List.mem_append_left _ (List.mem_append_right _ h))) (by decide +kernel))
set_option maxRecDepth 20000 in
theorem gX1_rootByRounds_X1_takeRootsOfParents : GoodIn wsX1_rootByRounds (wsV RX1 168 RX1 yX1_takeRootsOfParents wsX1_takeRootsOfParents) := goodIn_app (goodIn_of _ (by decide +kernel)) ggX1_rootByRounds_X1_takeRootsOfParents
theorem dX1_rootByRounds_0 : decode cX1_rootByRounds 0 = .ok (.aload_n 0, 1) := by decide +kernel
theorem dX1_rootByRounds_1 : decode cX1_rootByRounds 1 = .ok (.iload_n 1, 1) := by decide +kernel
theorem dX1_rootByRounds_2 : decode cX1_rootByRounds 2 = .ok (.invokevirtual 74, 3) := by decide +kernel
theorem dX1_rootByRounds_5 : decode cX1_rootByRounds 5 = .ok (.iconst 0, 1) := by decide +kernel
theorem dX1_rootByRounds_6 : decode cX1_rootByRounds 6 = .ok (.istore_n 2, 1) := by decide +kernel
theorem dX1_rootByRounds_7 : decode cX1_rootByRounds 7 = .ok (.iload_n 2, 1) := by decide +kernel
theorem dX1_rootByRounds_8 : decode cX1_rootByRounds 8 = .ok (.aload_n 0, 1) := by decide +kernel
theorem dX1_rootByRounds_9 : decode cX1_rootByRounds 9 = .ok (.getfield 9, 3) := by decide +kernel
theorem dX1_rootByRounds_12 : decode cX1_rootByRounds 12 = .ok (.if_icmp .ge 16, 3) := by decide +kernel
theorem dX1_rootByRounds_15 : decode cX1_rootByRounds 15 = .ok (.aload_n 0, 1) := by decide +kernel
theorem dX1_rootByRounds_16 : decode cX1_rootByRounds 16 = .ok (.getfield 49, 3) := by decide +kernel
theorem dX1_rootByRounds_19 : decode cX1_rootByRounds 19 = .ok (.iload_n 2, 1) := by decide +kernel
theorem dX1_rootByRounds_20 : decode cX1_rootByRounds 20 = .ok (.iload_n 2, 1) := by decide +kernel
theorem dX1_rootByRounds_21 : decode cX1_rootByRounds 21 = .ok (.iastore, 1) := by decide +kernel
theorem dX1_rootByRounds_22 : decode cX1_rootByRounds 22 = .ok (.iinc 2 1, 3) := by decide +kernel
theorem dX1_rootByRounds_25 : decode cX1_rootByRounds 25 = .ok (.goto (-18), 3) := by decide +kernel
theorem dX1_rootByRounds_28 : decode cX1_rootByRounds 28 = .ok (.iconst 0, 1) := by decide +kernel
theorem dX1_rootByRounds_29 : decode cX1_rootByRounds 29 = .ok (.istore_n 2, 1) := by decide +kernel
theorem dX1_rootByRounds_30 : decode cX1_rootByRounds 30 = .ok (.iload_n 2, 1) := by decide +kernel
theorem dX1_rootByRounds_31 : decode cX1_rootByRounds 31 = .ok (.aload_n 0, 1) := by decide +kernel
theorem dX1_rootByRounds_32 : decode cX1_rootByRounds 32 = .ok (.getfield 9, 3) := by decide +kernel
theorem dX1_rootByRounds_35 : decode cX1_rootByRounds 35 = .ok (.if_icmp .ge 13, 3) := by decide +kernel
theorem dX1_rootByRounds_38 : decode cX1_rootByRounds 38 = .ok (.aload_n 0, 1) := by decide +kernel
theorem dX1_rootByRounds_39 : decode cX1_rootByRounds 39 = .ok (.invokevirtual 168, 3) := by decide +kernel
theorem dX1_rootByRounds_42 : decode cX1_rootByRounds 42 = .ok (.iinc 2 1, 3) := by decide +kernel
theorem dX1_rootByRounds_45 : decode cX1_rootByRounds 45 = .ok (.goto (-15), 3) := by decide +kernel
theorem dX1_rootByRounds_48 : decode cX1_rootByRounds 48 = .ok (.aload_n 0, 1) := by decide +kernel
theorem dX1_rootByRounds_49 : decode cX1_rootByRounds 49 = .ok (.getfield 49, 3) := by decide +kernel
theorem dX1_rootByRounds_52 : decode cX1_rootByRounds 52 = .ok (.iload_n 1, 1) := by decide +kernel
theorem dX1_rootByRounds_53 : decode cX1_rootByRounds 53 = .ok (.iaload, 1) := by decide +kernel
theorem dX1_rootByRounds_54 : decode cX1_rootByRounds 54 = .ok (.ireturn, 1) := by decide +kernel
set_option maxRecDepth 20000 in
theorem ggX1_threads_X1_rootOf : GoodIn wsX1_threads wsX1_rootOf := goodIn_ca (goodIn_r _ [6, 1, 7, 8, 9, 5, 10, 11, 12, 13, 14, 15, 16, 17, 18, 19, 20, 21, 22, 23, 24, 25, 26, 27, 28, 29, 30, 31, 32, 33] rfl (by decide +kernel)) (goodIn_sub (fun _ h => List.mem_cons_of_mem _ (List.mem_append_right _ h)) (by decide +kernel))
set_option maxRecDepth 20000 in
theorem gX1_threads_X1_rootOf : GoodIn wsX1_threads (wsV RX1 165 RX1 yX1_rootOf wsX1_rootOf) := goodIn_app (goodIn_of _ (by decide +kernel)) ggX1_threads_X1_rootOf
theorem dX1_threads_0 : decode cX1_threads 0 = .ok (.iconst 0, 1) := by decide +kernel
theorem dX1_threads_1 : decode cX1_threads 1 = .ok (.istore_n 1, 1) := by decide +kernel
theorem dX1_threads_2 : decode cX1_threads 2 = .ok (.iconst 0, 1) := by decide +kernel
theorem dX1_threads_3 : decode cX1_threads 3 = .ok (.istore_n 2, 1) := by decide +kernel
theorem dX1_threads_4 : decode cX1_threads 4 = .ok (.iload_n 2, 1) := by decide +kernel
theorem dX1_threads_5 : decode cX1_threads 5 = .ok (.aload_n 0, 1) := by decide +kernel
theorem dX1_threads_6 : decode cX1_threads 6 = .ok (.getfield 9, 3) := by decide +kernel
theorem dX1_threads_9 : decode cX1_threads 9 = .ok (.if_icmp .ge 21, 3) := by decide +kernel
theorem dX1_threads_12 : decode cX1_threads 12 = .ok (.aload_n 0, 1) := by decide +kernel
theorem dX1_threads_13 : decode cX1_threads 13 = .ok (.iload_n 2, 1) := by decide +kernel
theorem dX1_threads_14 : decode cX1_threads 14 = .ok (.invokevirtual 165, 3) := by decide +kernel
theorem dX1_threads_17 : decode cX1_threads 17 = .ok (.iload_n 2, 1) := by decide +kernel
theorem dX1_threads_18 : decode cX1_threads 18 = .ok (.if_icmp .ne 6, 3) := by decide +kernel
theorem dX1_threads_21 : decode cX1_threads 21 = .ok (.iinc 1 1, 3) := by decide +kernel
theorem dX1_threads_24 : decode cX1_threads 24 = .ok (.iinc 2 1, 3) := by decide +kernel
theorem dX1_threads_27 : decode cX1_threads 27 = .ok (.goto (-23), 3) := by decide +kernel
theorem dX1_threads_30 : decode cX1_threads 30 = .ok (.iload_n 1, 1) := by decide +kernel
theorem dX1_threads_31 : decode cX1_threads 31 = .ok (.ireturn, 1) := by decide +kernel
set_option maxRecDepth 20000 in
theorem ggX1_size_X1_requireMail : GoodIn wsX1_size wsX1_requireMail := goodIn_ca (goodIn_r _ [6, 7, 8, 1, 9, 10, 5, 11, 31, 32, 33, 34, 35, 36, 37, 38, 39, 40, 41, 42] rfl (by decide +kernel)) (goodIn_sub (fun _ h => List.mem_cons_of_mem _ (List.mem_append_left _ (List.mem_append_right _ h))) (by decide +kernel))
set_option maxRecDepth 20000 in
theorem gX1_size_X1_requireMail : GoodIn wsX1_size (wsV RX1 74 RX1 yX1_requireMail wsX1_requireMail) := goodIn_app (goodIn_of _ (by decide +kernel)) ggX1_size_X1_requireMail
set_option maxRecDepth 20000 in
theorem ggX1_size_X1_rootOf : GoodIn wsX1_size wsX1_rootOf := goodIn_ca (goodIn_r _ [15, 1, 16, 17, 18, 5, 19, 20, 21, 22, 23, 24, 25, 26, 27, 28, 29, 30, 31, 32, 33, 34, 35, 36, 37, 38, 39, 40, 41, 42] rfl (by decide +kernel)) (goodIn_sub (fun _ h => List.mem_cons_of_mem _ (List.mem_append_right _ h)) (by decide +kernel))
set_option maxRecDepth 20000 in
theorem gX1_size_X1_rootOf : GoodIn wsX1_size (wsV RX1 165 RX1 yX1_rootOf wsX1_rootOf) := goodIn_app (goodIn_of _ (by decide +kernel)) ggX1_size_X1_rootOf
theorem dX1_size_0 : decode cX1_size 0 = .ok (.aload_n 0, 1) := by decide +kernel
theorem dX1_size_1 : decode cX1_size 1 = .ok (.iload_n 1, 1) := by decide +kernel
theorem dX1_size_2 : decode cX1_size 2 = .ok (.invokevirtual 74, 3) := by decide +kernel
theorem dX1_size_5 : decode cX1_size 5 = .ok (.aload_n 0, 1) := by decide +kernel
theorem dX1_size_6 : decode cX1_size 6 = .ok (.iload_n 1, 1) := by decide +kernel
theorem dX1_size_7 : decode cX1_size 7 = .ok (.invokevirtual 165, 3) := by decide +kernel
theorem dX1_size_10 : decode cX1_size 10 = .ok (.istore_n 2, 1) := by decide +kernel
theorem dX1_size_11 : decode cX1_size 11 = .ok (.iconst 0, 1) := by decide +kernel
theorem dX1_size_12 : decode cX1_size 12 = .ok (.istore_n 3, 1) := by decide +kernel
theorem dX1_size_13 : decode cX1_size 13 = .ok (.iconst 0, 1) := by decide +kernel
theorem dX1_size_14 : decode cX1_size 14 = .ok (.istore 4, 2) := by decide +kernel
theorem dX1_size_16 : decode cX1_size 16 = .ok (.iload 4, 2) := by decide +kernel
theorem dX1_size_18 : decode cX1_size 18 = .ok (.aload_n 0, 1) := by decide +kernel
theorem dX1_size_19 : decode cX1_size 19 = .ok (.getfield 9, 3) := by decide +kernel
theorem dX1_size_22 : decode cX1_size 22 = .ok (.if_icmp .ge 22, 3) := by decide +kernel
theorem dX1_size_25 : decode cX1_size 25 = .ok (.aload_n 0, 1) := by decide +kernel
theorem dX1_size_26 : decode cX1_size 26 = .ok (.iload 4, 2) := by decide +kernel
theorem dX1_size_28 : decode cX1_size 28 = .ok (.invokevirtual 165, 3) := by decide +kernel
theorem dX1_size_31 : decode cX1_size 31 = .ok (.iload_n 2, 1) := by decide +kernel
theorem dX1_size_32 : decode cX1_size 32 = .ok (.if_icmp .ne 6, 3) := by decide +kernel
theorem dX1_size_35 : decode cX1_size 35 = .ok (.iinc 3 1, 3) := by decide +kernel
theorem dX1_size_38 : decode cX1_size 38 = .ok (.iinc 4 1, 3) := by decide +kernel
theorem dX1_size_41 : decode cX1_size 41 = .ok (.goto (-25), 3) := by decide +kernel
theorem dX1_size_44 : decode cX1_size 44 = .ok (.iload_n 3, 1) := by decide +kernel
theorem dX1_size_45 : decode cX1_size 45 = .ok (.ireturn, 1) := by decide +kernel
theorem dX1_isWithin_0 : decode cX1_isWithin 0 = .ok (.iload_n 0, 1) := by decide +kernel
theorem dX1_isWithin_1 : decode cX1_isWithin 1 = .ok (.iload_n 1, 1) := by decide +kernel
theorem dX1_isWithin_2 : decode cX1_isWithin 2 = .ok (.if_icmp .lt 12, 3) := by decide +kernel
theorem dX1_isWithin_5 : decode cX1_isWithin 5 = .ok (.iload_n 0, 1) := by decide +kernel
theorem dX1_isWithin_6 : decode cX1_isWithin 6 = .ok (.iload_n 2, 1) := by decide +kernel
theorem dX1_isWithin_7 : decode cX1_isWithin 7 = .ok (.if_icmp .gt 7, 3) := by decide +kernel
theorem dX1_isWithin_10 : decode cX1_isWithin 10 = .ok (.iconst 1, 1) := by decide +kernel
theorem dX1_isWithin_11 : decode cX1_isWithin 11 = .ok (.goto 4, 3) := by decide +kernel
theorem dX1_isWithin_14 : decode cX1_isWithin 14 = .ok (.iconst 0, 1) := by decide +kernel
theorem dX1_isWithin_15 : decode cX1_isWithin 15 = .ok (.ireturn, 1) := by decide +kernel
set_option maxRecDepth 20000 in
theorem ggX1_requireMail_X1_isWithin : GoodIn wsX1_requireMail wsX1_isWithin := goodIn_r _ [7] rfl (by decide +kernel)
set_option maxRecDepth 20000 in
theorem gX1_requireMail_X1_isWithin : GoodIn wsX1_requireMail (va_wsS RX1 52 yX1_isWithin wsX1_isWithin) := goodIn_app (goodIn_of _ (by decide +kernel)) ggX1_requireMail_X1_isWithin
theorem dX1_requireMail_0 : decode cX1_requireMail 0 = .ok (.iload_n 1, 1) := by decide +kernel
theorem dX1_requireMail_1 : decode cX1_requireMail 1 = .ok (.iconst 0, 1) := by decide +kernel
theorem dX1_requireMail_2 : decode cX1_requireMail 2 = .ok (.aload_n 0, 1) := by decide +kernel
theorem dX1_requireMail_3 : decode cX1_requireMail 3 = .ok (.getfield 9, 3) := by decide +kernel
theorem dX1_requireMail_6 : decode cX1_requireMail 6 = .ok (.iconst 1, 1) := by decide +kernel
theorem dX1_requireMail_7 : decode cX1_requireMail 7 = .ok (.isub, 1) := by decide +kernel
theorem dX1_requireMail_8 : decode cX1_requireMail 8 = .ok (.invokestatic 52, 3) := by decide +kernel
theorem dX1_requireMail_11 : decode cX1_requireMail 11 = .ok (.ifCond .ne 13, 3) := by decide +kernel
theorem dX1_requireMail_14 : decode cX1_requireMail 14 = .ok (.new 184, 3) := by decide +kernel
theorem dX1_requireMail_17 : decode cX1_requireMail 17 = .ok (.dup, 1) := by decide +kernel
theorem dX1_requireMail_18 : decode cX1_requireMail 18 = .ok (.ldc 186, 2) := by decide +kernel
theorem dX1_requireMail_20 : decode cX1_requireMail 20 = .ok (.invokespecial 188, 3) := by decide +kernel
theorem dX1_requireMail_23 : decode cX1_requireMail 23 = .ok (.athrow, 1) := by decide +kernel
theorem dX1_requireMail_24 : decode cX1_requireMail 24 = .ok (.return_, 1) := by decide +kernel
set_option maxRecDepth 20000 in
theorem ggX1_requireLine_X1_requireMail : GoodIn wsX1_requireLine wsX1_requireMail := goodIn_ca (goodIn_r _ [8, 1, 2, 9, 10, 11, 7, 12, 13, 14, 15, 16, 17, 18, 19, 20, 21, 22, 23, 24] rfl (by decide +kernel)) (goodIn_sub (fun _ h => List.mem_cons_of_mem _ (List.mem_append_right _ h)) (by decide +kernel))
set_option maxRecDepth 20000 in
theorem gX1_requireLine_X1_requireMail : GoodIn wsX1_requireLine (wsV RX1 74 RX1 yX1_requireMail wsX1_requireMail) := goodIn_app (goodIn_of _ (by decide +kernel)) ggX1_requireLine_X1_requireMail
set_option maxRecDepth 20000 in
theorem ggX1_requireLine_X1_isWithin : GoodIn wsX1_requireLine wsX1_isWithin := goodIn_r _ [12] rfl (by decide +kernel)
set_option maxRecDepth 20000 in
theorem gX1_requireLine_X1_isWithin : GoodIn wsX1_requireLine (va_wsS RX1 52 yX1_isWithin wsX1_isWithin) := goodIn_app (goodIn_of _ (by decide +kernel)) ggX1_requireLine_X1_isWithin
theorem dX1_requireLine_0 : decode cX1_requireLine 0 = .ok (.aload_n 0, 1) := by decide +kernel
theorem dX1_requireLine_1 : decode cX1_requireLine 1 = .ok (.iload_n 1, 1) := by decide +kernel
theorem dX1_requireLine_2 : decode cX1_requireLine 2 = .ok (.invokevirtual 74, 3) := by decide +kernel
theorem dX1_requireLine_5 : decode cX1_requireLine 5 = .ok (.iload_n 2, 1) := by decide +kernel
theorem dX1_requireLine_6 : decode cX1_requireLine 6 = .ok (.iconst 0, 1) := by decide +kernel
theorem dX1_requireLine_7 : decode cX1_requireLine 7 = .ok (.aload_n 0, 1) := by decide +kernel
theorem dX1_requireLine_8 : decode cX1_requireLine 8 = .ok (.getfield 26, 3) := by decide +kernel
theorem dX1_requireLine_11 : decode cX1_requireLine 11 = .ok (.iload_n 1, 1) := by decide +kernel
theorem dX1_requireLine_12 : decode cX1_requireLine 12 = .ok (.iaload, 1) := by decide +kernel
theorem dX1_requireLine_13 : decode cX1_requireLine 13 = .ok (.iconst 1, 1) := by decide +kernel
theorem dX1_requireLine_14 : decode cX1_requireLine 14 = .ok (.isub, 1) := by decide +kernel
theorem dX1_requireLine_15 : decode cX1_requireLine 15 = .ok (.invokestatic 52, 3) := by decide +kernel
theorem dX1_requireLine_18 : decode cX1_requireLine 18 = .ok (.ifCond .ne 13, 3) := by decide +kernel
theorem dX1_requireLine_21 : decode cX1_requireLine 21 = .ok (.new 184, 3) := by decide +kernel
theorem dX1_requireLine_24 : decode cX1_requireLine 24 = .ok (.dup, 1) := by decide +kernel
theorem dX1_requireLine_25 : decode cX1_requireLine 25 = .ok (.ldc 189, 2) := by decide +kernel
theorem dX1_requireLine_27 : decode cX1_requireLine 27 = .ok (.invokespecial 188, 3) := by decide +kernel
theorem dX1_requireLine_30 : decode cX1_requireLine 30 = .ok (.athrow, 1) := by decide +kernel
theorem dX1_requireLine_31 : decode cX1_requireLine 31 = .ok (.return_, 1) := by decide +kernel
set_option maxRecDepth 20000 in
theorem ggX1_requireAnswered_X1_isNew : GoodIn wsX1_requireAnswered wsX1_isNew := goodIn_ca (goodIn_r _ [9, 10, 11, 12, 8, 13, 14, 15, 16, 17, 18, 19, 20, 21, 22, 23, 24, 25, 26, 27, 28, 29, 30, 31, 32, 33, 34, 35, 36, 37, 38, 39, 40, 41, 42, 43, 44, 45, 46, 47, 48, 49, 50, 51, 52, 53, 54, 55, 56, 57, 58, 59, 60, 61, 62, 63, 64, 65, 66, 67, 68, 69, 70, 71, 72, 73, 74, 75, 76, 85, 86, 87, 88, 89, 90, 91, 92, 93, 94, 95, 96] rfl (by decide +kernel)) (goodIn_sub (fun _ h => List.mem_cons_of_mem _ (List.mem_append_right _ h)) (by decide +kernel))
set_option maxRecDepth 20000 in
theorem gX1_requireAnswered_X1_isNew : GoodIn wsX1_requireAnswered (wsV RX1 145 RX1 yX1_isNew wsX1_isNew) := goodIn_app (goodIn_of _ (by decide +kernel)) ggX1_requireAnswered_X1_isNew
set_option maxRecDepth 20000 in
theorem ggX1_requireAnswered_X1_answeredBy : GoodIn wsX1_requireAnswered wsX1_answeredBy := goodIn_ca (goodIn_r _ [80, 21, 22, 8, 23, 47, 48, 49, 50, 51, 52, 53, 54, 10, 11, 12, 13, 14, 15, 16, 17, 18, 19, 20, 81, 82, 83, 84, 85, 86, 87, 88, 89, 90, 91, 92, 93, 94, 95, 96] rfl (by decide +kernel)) (goodIn_sub (fun _ h => List.mem_cons_of_mem _ (List.mem_append_right _ h)) (by decide +kernel))
set_option maxRecDepth 20000 in
theorem gX1_requireAnswered_X1_answeredBy : GoodIn wsX1_requireAnswered (wsV RX1 148 RX1 yX1_answeredBy wsX1_answeredBy) := goodIn_app (goodIn_of _ (by decide +kernel)) ggX1_requireAnswered_X1_answeredBy
theorem dX1_requireAnswered_0 : decode cX1_requireAnswered 0 = .ok (.aload_n 0, 1) := by decide +kernel
theorem dX1_requireAnswered_1 : decode cX1_requireAnswered 1 = .ok (.iload_n 1, 1) := by decide +kernel
theorem dX1_requireAnswered_2 : decode cX1_requireAnswered 2 = .ok (.invokevirtual 145, 3) := by decide +kernel
theorem dX1_requireAnswered_5 : decode cX1_requireAnswered 5 = .ok (.ifCond .ne 13, 3) := by decide +kernel
theorem dX1_requireAnswered_8 : decode cX1_requireAnswered 8 = .ok (.new 160, 3) := by decide +kernel
theorem dX1_requireAnswered_11 : decode cX1_requireAnswered 11 = .ok (.dup, 1) := by decide +kernel
theorem dX1_requireAnswered_12 : decode cX1_requireAnswered 12 = .ok (.ldc 191, 2) := by decide +kernel
theorem dX1_requireAnswered_14 : decode cX1_requireAnswered 14 = .ok (.invokespecial 164, 3) := by decide +kernel
theorem dX1_requireAnswered_17 : decode cX1_requireAnswered 17 = .ok (.athrow, 1) := by decide +kernel
theorem dX1_requireAnswered_18 : decode cX1_requireAnswered 18 = .ok (.aload_n 0, 1) := by decide +kernel
theorem dX1_requireAnswered_19 : decode cX1_requireAnswered 19 = .ok (.iload_n 1, 1) := by decide +kernel
theorem dX1_requireAnswered_20 : decode cX1_requireAnswered 20 = .ok (.invokevirtual 148, 3) := by decide +kernel
theorem dX1_requireAnswered_23 : decode cX1_requireAnswered 23 = .ok (.istore_n 2, 1) := by decide +kernel
theorem dX1_requireAnswered_24 : decode cX1_requireAnswered 24 = .ok (.iload_n 2, 1) := by decide +kernel
theorem dX1_requireAnswered_25 : decode cX1_requireAnswered 25 = .ok (.iconst (-1), 1) := by decide +kernel
theorem dX1_requireAnswered_26 : decode cX1_requireAnswered 26 = .ok (.if_icmp .ne 13, 3) := by decide +kernel
theorem dX1_requireAnswered_29 : decode cX1_requireAnswered 29 = .ok (.new 96, 3) := by decide +kernel
theorem dX1_requireAnswered_32 : decode cX1_requireAnswered 32 = .ok (.dup, 1) := by decide +kernel
theorem dX1_requireAnswered_33 : decode cX1_requireAnswered 33 = .ok (.ldc 193, 2) := by decide +kernel
theorem dX1_requireAnswered_35 : decode cX1_requireAnswered 35 = .ok (.invokespecial 100, 3) := by decide +kernel
theorem dX1_requireAnswered_38 : decode cX1_requireAnswered 38 = .ok (.athrow, 1) := by decide +kernel
theorem dX1_requireAnswered_39 : decode cX1_requireAnswered 39 = .ok (.iload_n 2, 1) := by decide +kernel
theorem dX1_requireAnswered_40 : decode cX1_requireAnswered 40 = .ok (.ireturn, 1) := by decide +kernel
theorem dX1_placeOf_0 : decode cX1_placeOf 0 = .ok (.iload_n 0, 1) := by decide +kernel
theorem dX1_placeOf_1 : decode cX1_placeOf 1 = .ok (.bipush 8, 2) := by decide +kernel
theorem dX1_placeOf_3 : decode cX1_placeOf 3 = .ok (.imul, 1) := by decide +kernel
theorem dX1_placeOf_4 : decode cX1_placeOf 4 = .ok (.iload_n 1, 1) := by decide +kernel
theorem dX1_placeOf_5 : decode cX1_placeOf 5 = .ok (.iadd, 1) := by decide +kernel
theorem dX1_placeOf_6 : decode cX1_placeOf 6 = .ok (.ireturn, 1) := by decide +kernel
theorem dX1_mailAt_0 : decode cX1_mailAt 0 = .ok (.iload_n 0, 1) := by decide +kernel
theorem dX1_mailAt_1 : decode cX1_mailAt 1 = .ok (.bipush 8, 2) := by decide +kernel
theorem dX1_mailAt_3 : decode cX1_mailAt 3 = .ok (.idiv, 1) := by decide +kernel
theorem dX1_mailAt_4 : decode cX1_mailAt 4 = .ok (.ireturn, 1) := by decide +kernel
theorem dX1_lineAt_0 : decode cX1_lineAt 0 = .ok (.iload_n 0, 1) := by decide +kernel
theorem dX1_lineAt_1 : decode cX1_lineAt 1 = .ok (.bipush 8, 2) := by decide +kernel
theorem dX1_lineAt_3 : decode cX1_lineAt 3 = .ok (.irem, 1) := by decide +kernel
theorem dX1_lineAt_4 : decode cX1_lineAt 4 = .ok (.ireturn, 1) := by decide +kernel
set_option maxRecDepth 20000 in
theorem ggX1_isLine_X1_isWithin : GoodIn wsX1_isLine wsX1_isWithin := goodIn_r _ [5] rfl (by decide +kernel)
set_option maxRecDepth 20000 in
theorem gX1_isLine_X1_isWithin : GoodIn wsX1_isLine (va_wsS RX1 52 yX1_isWithin wsX1_isWithin) := goodIn_app (goodIn_of _ (by decide +kernel)) ggX1_isLine_X1_isWithin
set_option maxRecDepth 20000 in
theorem ggX1_isLine_X1_lineAt : GoodIn wsX1_isLine wsX1_lineAt := goodIn_r _ [8] rfl (by decide +kernel)
set_option maxRecDepth 20000 in
theorem gX1_isLine_X1_lineAt : GoodIn wsX1_isLine (va_wsS RX1 126 yX1_lineAt wsX1_lineAt) := goodIn_app (goodIn_of _ (by decide +kernel)) ggX1_isLine_X1_lineAt
set_option maxRecDepth 20000 in
theorem ggX1_isLine_X1_mailAt : GoodIn wsX1_isLine wsX1_mailAt := goodIn_r _ [11] rfl (by decide +kernel)
set_option maxRecDepth 20000 in
theorem gX1_isLine_X1_mailAt : GoodIn wsX1_isLine (va_wsS RX1 132 yX1_mailAt wsX1_mailAt) := goodIn_app (goodIn_of _ (by decide +kernel)) ggX1_isLine_X1_mailAt
theorem dX1_isLine_0 : decode cX1_isLine 0 = .ok (.iload_n 1, 1) := by decide +kernel
theorem dX1_isLine_1 : decode cX1_isLine 1 = .ok (.iconst 0, 1) := by decide +kernel
theorem dX1_isLine_2 : decode cX1_isLine 2 = .ok (.bipush 79, 2) := by decide +kernel
theorem dX1_isLine_4 : decode cX1_isLine 4 = .ok (.invokestatic 52, 3) := by decide +kernel
theorem dX1_isLine_7 : decode cX1_isLine 7 = .ok (.ifCond .eq 23, 3) := by decide +kernel
theorem dX1_isLine_10 : decode cX1_isLine 10 = .ok (.iload_n 1, 1) := by decide +kernel
theorem dX1_isLine_11 : decode cX1_isLine 11 = .ok (.invokestatic 126, 3) := by decide +kernel
theorem dX1_isLine_14 : decode cX1_isLine 14 = .ok (.aload_n 0, 1) := by decide +kernel
theorem dX1_isLine_15 : decode cX1_isLine 15 = .ok (.getfield 26, 3) := by decide +kernel
theorem dX1_isLine_18 : decode cX1_isLine 18 = .ok (.iload_n 1, 1) := by decide +kernel
theorem dX1_isLine_19 : decode cX1_isLine 19 = .ok (.invokestatic 132, 3) := by decide +kernel
theorem dX1_isLine_22 : decode cX1_isLine 22 = .ok (.iaload, 1) := by decide +kernel
theorem dX1_isLine_23 : decode cX1_isLine 23 = .ok (.if_icmp .ge 7, 3) := by decide +kernel
theorem dX1_isLine_26 : decode cX1_isLine 26 = .ok (.iconst 1, 1) := by decide +kernel
theorem dX1_isLine_27 : decode cX1_isLine 27 = .ok (.goto 4, 3) := by decide +kernel
theorem dX1_isLine_30 : decode cX1_isLine 30 = .ok (.iconst 0, 1) := by decide +kernel
theorem dX1_isLine_31 : decode cX1_isLine 31 = .ok (.ireturn, 1) := by decide +kernel
theorem dX1_mailOfDate_0 : decode cX1_mailOfDate 0 = .ok (.iconst 0, 1) := by decide +kernel
theorem dX1_mailOfDate_1 : decode cX1_mailOfDate 1 = .ok (.istore_n 2, 1) := by decide +kernel
theorem dX1_mailOfDate_2 : decode cX1_mailOfDate 2 = .ok (.iload_n 2, 1) := by decide +kernel
theorem dX1_mailOfDate_3 : decode cX1_mailOfDate 3 = .ok (.aload_n 0, 1) := by decide +kernel
theorem dX1_mailOfDate_4 : decode cX1_mailOfDate 4 = .ok (.getfield 9, 3) := by decide +kernel
theorem dX1_mailOfDate_7 : decode cX1_mailOfDate 7 = .ok (.if_icmp .ge 21, 3) := by decide +kernel
theorem dX1_mailOfDate_10 : decode cX1_mailOfDate 10 = .ok (.aload_n 0, 1) := by decide +kernel
theorem dX1_mailOfDate_11 : decode cX1_mailOfDate 11 = .ok (.getfield 13, 3) := by decide +kernel
theorem dX1_mailOfDate_14 : decode cX1_mailOfDate 14 = .ok (.iload_n 2, 1) := by decide +kernel
theorem dX1_mailOfDate_15 : decode cX1_mailOfDate 15 = .ok (.iaload, 1) := by decide +kernel
theorem dX1_mailOfDate_16 : decode cX1_mailOfDate 16 = .ok (.iload_n 1, 1) := by decide +kernel
theorem dX1_mailOfDate_17 : decode cX1_mailOfDate 17 = .ok (.if_icmp .ne 5, 3) := by decide +kernel
theorem dX1_mailOfDate_20 : decode cX1_mailOfDate 20 = .ok (.iload_n 2, 1) := by decide +kernel
theorem dX1_mailOfDate_21 : decode cX1_mailOfDate 21 = .ok (.ireturn, 1) := by decide +kernel
theorem dX1_mailOfDate_22 : decode cX1_mailOfDate 22 = .ok (.iinc 2 1, 3) := by decide +kernel
theorem dX1_mailOfDate_25 : decode cX1_mailOfDate 25 = .ok (.goto (-23), 3) := by decide +kernel
theorem dX1_mailOfDate_28 : decode cX1_mailOfDate 28 = .ok (.iconst (-1), 1) := by decide +kernel
theorem dX1_mailOfDate_29 : decode cX1_mailOfDate 29 = .ok (.ireturn, 1) := by decide +kernel
set_option maxRecDepth 20000 in
theorem ggX1_parentOf_X1_mailOfDate : GoodIn wsX1_parentOf wsX1_mailOfDate := goodIn_ca (goodIn_r _ [6, 7, 8, 9, 10, 11, 12, 13, 14, 15, 16, 17, 18, 19, 20] rfl (by decide +kernel)) (goodIn_sub (fun _ h => List.mem_cons_of_mem _ (List.mem_append_right _ h)) (by decide +kernel))
set_option maxRecDepth 20000 in
theorem gX1_parentOf_X1_mailOfDate : GoodIn wsX1_parentOf (wsV RX1 63 RX1 yX1_mailOfDate wsX1_mailOfDate) := goodIn_app (goodIn_of _ (by decide +kernel)) ggX1_parentOf_X1_mailOfDate
theorem dX1_parentOf_0 : decode cX1_parentOf 0 = .ok (.aload_n 0, 1) := by decide +kernel
theorem dX1_parentOf_1 : decode cX1_parentOf 1 = .ok (.aload_n 0, 1) := by decide +kernel
theorem dX1_parentOf_2 : decode cX1_parentOf 2 = .ok (.getfield 23, 3) := by decide +kernel
theorem dX1_parentOf_5 : decode cX1_parentOf 5 = .ok (.iload_n 1, 1) := by decide +kernel
theorem dX1_parentOf_6 : decode cX1_parentOf 6 = .ok (.iaload, 1) := by decide +kernel
theorem dX1_parentOf_7 : decode cX1_parentOf 7 = .ok (.invokevirtual 63, 3) := by decide +kernel
theorem dX1_parentOf_10 : decode cX1_parentOf 10 = .ok (.ireturn, 1) := by decide +kernel
set_option maxRecDepth 20000 in
theorem ggX1_answersMissing_X1_parentOf : GoodIn wsX1_answersMissing wsX1_parentOf := goodIn_ca (goodIn_r _ [6, 1, 7, 8, 9, 5, 10, 11, 12, 13, 14, 15, 16, 17, 18, 19, 20, 21, 22, 23, 24] rfl (by decide +kernel)) (goodIn_sub (fun _ h => List.mem_cons_of_mem _ (List.mem_append_right _ h)) (by decide +kernel))
set_option maxRecDepth 20000 in
theorem gX1_answersMissing_X1_parentOf : GoodIn wsX1_answersMissing (wsV RX1 93 RX1 yX1_parentOf wsX1_parentOf) := goodIn_app (goodIn_of _ (by decide +kernel)) ggX1_answersMissing_X1_parentOf
theorem dX1_answersMissing_0 : decode cX1_answersMissing 0 = .ok (.aload_n 0, 1) := by decide +kernel
theorem dX1_answersMissing_1 : decode cX1_answersMissing 1 = .ok (.getfield 23, 3) := by decide +kernel
theorem dX1_answersMissing_4 : decode cX1_answersMissing 4 = .ok (.iload_n 1, 1) := by decide +kernel
theorem dX1_answersMissing_5 : decode cX1_answersMissing 5 = .ok (.iaload, 1) := by decide +kernel
theorem dX1_answersMissing_6 : decode cX1_answersMissing 6 = .ok (.ifCond .eq 16, 3) := by decide +kernel
theorem dX1_answersMissing_9 : decode cX1_answersMissing 9 = .ok (.aload_n 0, 1) := by decide +kernel
theorem dX1_answersMissing_10 : decode cX1_answersMissing 10 = .ok (.iload_n 1, 1) := by decide +kernel
theorem dX1_answersMissing_11 : decode cX1_answersMissing 11 = .ok (.invokevirtual 93, 3) := by decide +kernel
theorem dX1_answersMissing_14 : decode cX1_answersMissing 14 = .ok (.iconst (-1), 1) := by decide +kernel
theorem dX1_answersMissing_15 : decode cX1_answersMissing 15 = .ok (.if_icmp .ne 7, 3) := by decide +kernel
theorem dX1_answersMissing_18 : decode cX1_answersMissing 18 = .ok (.iconst 1, 1) := by decide +kernel
theorem dX1_answersMissing_19 : decode cX1_answersMissing 19 = .ok (.goto 4, 3) := by decide +kernel
theorem dX1_answersMissing_22 : decode cX1_answersMissing 22 = .ok (.iconst 0, 1) := by decide +kernel
theorem dX1_answersMissing_23 : decode cX1_answersMissing 23 = .ok (.ireturn, 1) := by decide +kernel
set_option maxRecDepth 20000 in
theorem ggX1_realignAround_X1_parentOf : GoodIn wsX1_realignAround wsX1_parentOf := goodIn_ca (goodIn_r _ [6, 7, 8, 9, 10, 5, 11, 1, 12, 62, 63, 64, 65, 66, 67, 68, 69, 70, 71, 72, 73] rfl (by decide +kernel)) (goodIn_sub (fun _ h => List.mem_cons_of_mem _ (List.mem_append_right _ h)) (by decide +kernel))
set_option maxRecDepth 20000 in
theorem gX1_realignAround_X1_parentOf : GoodIn wsX1_realignAround (wsV RX1 93 RX1 yX1_parentOf wsX1_parentOf) := goodIn_app (goodIn_of _ (by decide +kernel)) ggX1_realignAround_X1_parentOf
set_option maxRecDepth 20000 in
theorem ggX1_realignAround_X1_realign : GoodIn wsX1_realignAround wsX1_realign := goodIn_ca (goodIn_r _ [16, 17, 18, 19, 20, 21, 5, 22, 23, 24, 25, 26, 27, 28, 29, 30, 31, 32, 2, 3, 4, 6, 7, 8, 9, 10, 11, 1, 12, 33, 34, 35, 36, 37, 38, 39, 40, 41, 42, 43, 44, 45, 46, 47, 48, 49, 50, 51, 52, 53, 54, 55, 56, 57, 58, 59, 60, 61, 62, 63, 64, 65, 66, 67, 68, 69, 70, 71, 72, 73, 74, 75, 76] rfl (by decide +kernel)) (goodIn_sub (fun _ h => List.mem_cons_of_mem _ (List.mem_append_right _ h)) (by decide +kernel))
set_option maxRecDepth 20000 in
theorem gX1_realignAround_X1_realign : GoodIn wsX1_realignAround (wsV RX1 195 RX1 yX1_realign wsX1_realign) := goodIn_app (goodIn_of _ (by decide +kernel)) ggX1_realignAround_X1_realign
theorem dX1_realignAround_0 : decode cX1_realignAround 0 = .ok (.iconst 0, 1) := by decide +kernel
theorem dX1_realignAround_1 : decode cX1_realignAround 1 = .ok (.istore_n 2, 1) := by decide +kernel
theorem dX1_realignAround_2 : decode cX1_realignAround 2 = .ok (.iload_n 2, 1) := by decide +kernel
theorem dX1_realignAround_3 : decode cX1_realignAround 3 = .ok (.aload_n 0, 1) := by decide +kernel
theorem dX1_realignAround_4 : decode cX1_realignAround 4 = .ok (.getfield 9, 3) := by decide +kernel
theorem dX1_realignAround_7 : decode cX1_realignAround 7 = .ok (.if_icmp .ge 28, 3) := by decide +kernel
theorem dX1_realignAround_10 : decode cX1_realignAround 10 = .ok (.iload_n 2, 1) := by decide +kernel
theorem dX1_realignAround_11 : decode cX1_realignAround 11 = .ok (.iload_n 1, 1) := by decide +kernel
theorem dX1_realignAround_12 : decode cX1_realignAround 12 = .ok (.if_icmp .eq 12, 3) := by decide +kernel
theorem dX1_realignAround_15 : decode cX1_realignAround 15 = .ok (.aload_n 0, 1) := by decide +kernel
theorem dX1_realignAround_16 : decode cX1_realignAround 16 = .ok (.iload_n 2, 1) := by decide +kernel
theorem dX1_realignAround_17 : decode cX1_realignAround 17 = .ok (.invokevirtual 93, 3) := by decide +kernel
theorem dX1_realignAround_20 : decode cX1_realignAround 20 = .ok (.iload_n 1, 1) := by decide +kernel
theorem dX1_realignAround_21 : decode cX1_realignAround 21 = .ok (.if_icmp .ne 8, 3) := by decide +kernel
theorem dX1_realignAround_24 : decode cX1_realignAround 24 = .ok (.aload_n 0, 1) := by decide +kernel
theorem dX1_realignAround_25 : decode cX1_realignAround 25 = .ok (.iload_n 2, 1) := by decide +kernel
theorem dX1_realignAround_26 : decode cX1_realignAround 26 = .ok (.invokevirtual 195, 3) := by decide +kernel
theorem dX1_realignAround_29 : decode cX1_realignAround 29 = .ok (.iinc 2 1, 3) := by decide +kernel
theorem dX1_realignAround_32 : decode cX1_realignAround 32 = .ok (.goto (-30), 3) := by decide +kernel
theorem dX1_realignAround_35 : decode cX1_realignAround 35 = .ok (.return_, 1) := by decide +kernel
set_option maxRecDepth 20000 in
theorem ggX1_realign_X1_faceParent : GoodIn wsX1_realign wsX1_faceParent := goodIn_ca (goodIn_r _ [7, 1, 8, 9, 10, 11, 12, 13, 14, 15, 16, 17, 18, 19, 20, 6, 21, 22, 23, 24, 25, 26, 27, 28, 29, 30, 31, 32, 33, 34, 35, 36, 37, 38, 39, 40, 41, 42, 43, 44, 58, 59, 60, 61, 62, 63, 64, 65, 66, 67, 68, 69, 70, 71, 72] rfl (by decide +kernel)) (goodIn_sub (fun _ h => List.mem_cons_of_mem _ (List.mem_append_right _ h)) (by decide +kernel))
set_option maxRecDepth 20000 in
theorem gX1_realign_X1_faceParent : GoodIn wsX1_realign (wsV RX1 108 RX1 yX1_faceParent wsX1_faceParent) := goodIn_app (goodIn_of _ (by decide +kernel)) ggX1_realign_X1_faceParent
set_option maxRecDepth 20000 in
theorem ggX1_realign_X0_fillTable : GoodIn wsX1_realign wsX0_fillTable := goodIn_ca (goodIn_r _ [48, 49, 50, 51, 52, 53, 16, 17, 70, 71, 72] rfl (by decide +kernel)) (goodIn_sub (fun _ h => List.mem_cons_of_mem _ (List.mem_append_right _ h)) (by decide +kernel))
set_option maxRecDepth 20000 in
theorem gX1_realign_X0_fillTable : GoodIn wsX1_realign (wsV RX1 111 RX0 yX0_fillTable wsX0_fillTable) := goodIn_app (goodIn_of _ (by decide +kernel)) ggX1_realign_X0_fillTable
set_option maxRecDepth 20000 in
theorem ggX1_realign_X1_parentOf : GoodIn wsX1_realign wsX1_parentOf := goodIn_ca (goodIn_r _ [21, 22, 23, 24, 25, 6, 26, 27, 28, 58, 59, 60, 61, 62, 63, 64, 65, 66, 67, 68, 69] rfl (by decide +kernel)) (goodIn_sub (fun _ h => List.mem_cons_of_mem _ (List.mem_append_right _ h)) (by decide +kernel))
set_option maxRecDepth 20000 in
theorem gX1_realign_X1_parentOf : GoodIn wsX1_realign (wsV RX1 93 RX1 yX1_parentOf wsX1_parentOf) := goodIn_app (goodIn_of _ (by decide +kernel)) ggX1_realign_X1_parentOf
set_option maxRecDepth 20000 in
theorem ggX1_realign_X0_earliestPartner : GoodIn wsX1_realign wsX0_earliestPartner := goodIn_ca (goodIn_r _ [57, 16, 17, 49, 36, 6, 37, 70, 71, 72] rfl (by decide +kernel)) (goodIn_sub (fun _ h => List.mem_cons_of_mem _ (List.mem_append_right _ h)) (by decide +kernel))
set_option maxRecDepth 20000 in
theorem gX1_realign_X0_earliestPartner : GoodIn wsX1_realign (wsV RX1 198 RX0 yX0_earliestPartner wsX0_earliestPartner) := goodIn_app (goodIn_of _ (by decide +kernel)) ggX1_realign_X0_earliestPartner
set_option maxRecDepth 20000 in
theorem ggX1_realign_X1_placeOf : GoodIn wsX1_realign wsX1_placeOf := goodIn_r _ [31] rfl (by decide +kernel)
set_option maxRecDepth 20000 in
theorem gX1_realign_X1_placeOf : GoodIn wsX1_realign (va_wsS RX1 80 yX1_placeOf wsX1_placeOf) := goodIn_app (goodIn_of _ (by decide +kernel)) ggX1_realign_X1_placeOf
theorem dX1_realign_0 : decode cX1_realign 0 = .ok (.aload_n 0, 1) := by decide +kernel
theorem dX1_realign_1 : decode cX1_realign 1 = .ok (.iload_n 1, 1) := by decide +kernel
theorem dX1_realign_2 : decode cX1_realign 2 = .ok (.invokevirtual 108, 3) := by decide +kernel
theorem dX1_realign_5 : decode cX1_realign 5 = .ok (.aload_n 0, 1) := by decide +kernel
theorem dX1_realign_6 : decode cX1_realign 6 = .ok (.getfield 41, 3) := by decide +kernel
theorem dX1_realign_9 : decode cX1_realign 9 = .ok (.invokevirtual 111, 3) := by decide +kernel
theorem dX1_realign_12 : decode cX1_realign 12 = .ok (.aload_n 0, 1) := by decide +kernel
theorem dX1_realign_13 : decode cX1_realign 13 = .ok (.iload_n 1, 1) := by decide +kernel
theorem dX1_realign_14 : decode cX1_realign 14 = .ok (.invokevirtual 93, 3) := by decide +kernel
theorem dX1_realign_17 : decode cX1_realign 17 = .ok (.istore_n 2, 1) := by decide +kernel
theorem dX1_realign_18 : decode cX1_realign 18 = .ok (.iconst 0, 1) := by decide +kernel
theorem dX1_realign_19 : decode cX1_realign 19 = .ok (.istore_n 3, 1) := by decide +kernel
theorem dX1_realign_20 : decode cX1_realign 20 = .ok (.iconst 0, 1) := by decide +kernel
theorem dX1_realign_21 : decode cX1_realign 21 = .ok (.istore 4, 2) := by decide +kernel
theorem dX1_realign_23 : decode cX1_realign 23 = .ok (.iload 4, 2) := by decide +kernel
theorem dX1_realign_25 : decode cX1_realign 25 = .ok (.bipush 8, 2) := by decide +kernel
theorem dX1_realign_27 : decode cX1_realign 27 = .ok (.if_icmp .ge 69, 3) := by decide +kernel
theorem dX1_realign_30 : decode cX1_realign 30 = .ok (.aload_n 0, 1) := by decide +kernel
theorem dX1_realign_31 : decode cX1_realign 31 = .ok (.getfield 41, 3) := by decide +kernel
theorem dX1_realign_34 : decode cX1_realign 34 = .ok (.iload 4, 2) := by decide +kernel
theorem dX1_realign_36 : decode cX1_realign 36 = .ok (.iload_n 3, 1) := by decide +kernel
theorem dX1_realign_37 : decode cX1_realign 37 = .ok (.invokevirtual 198, 3) := by decide +kernel
theorem dX1_realign_40 : decode cX1_realign 40 = .ok (.istore 5, 2) := by decide +kernel
theorem dX1_realign_42 : decode cX1_realign 42 = .ok (.iload_n 2, 1) := by decide +kernel
theorem dX1_realign_43 : decode cX1_realign 43 = .ok (.iconst (-1), 1) := by decide +kernel
theorem dX1_realign_44 : decode cX1_realign 44 = .ok (.if_icmp .eq 9, 3) := by decide +kernel
theorem dX1_realign_47 : decode cX1_realign 47 = .ok (.iload 5, 2) := by decide +kernel
theorem dX1_realign_49 : decode cX1_realign 49 = .ok (.iconst (-1), 1) := by decide +kernel
theorem dX1_realign_50 : decode cX1_realign 50 = .ok (.if_icmp .ne 18, 3) := by decide +kernel
theorem dX1_realign_53 : decode cX1_realign 53 = .ok (.aload_n 0, 1) := by decide +kernel
theorem dX1_realign_54 : decode cX1_realign 54 = .ok (.getfield 35, 3) := by decide +kernel
theorem dX1_realign_57 : decode cX1_realign 57 = .ok (.iload_n 1, 1) := by decide +kernel
theorem dX1_realign_58 : decode cX1_realign 58 = .ok (.iload 4, 2) := by decide +kernel
theorem dX1_realign_60 : decode cX1_realign 60 = .ok (.invokestatic 80, 3) := by decide +kernel
theorem dX1_realign_63 : decode cX1_realign 63 = .ok (.iconst (-1), 1) := by decide +kernel
theorem dX1_realign_64 : decode cX1_realign 64 = .ok (.iastore, 1) := by decide +kernel
theorem dX1_realign_65 : decode cX1_realign 65 = .ok (.goto 25, 3) := by decide +kernel
theorem dX1_realign_68 : decode cX1_realign 68 = .ok (.aload_n 0, 1) := by decide +kernel
theorem dX1_realign_69 : decode cX1_realign 69 = .ok (.getfield 35, 3) := by decide +kernel
theorem dX1_realign_72 : decode cX1_realign 72 = .ok (.iload_n 1, 1) := by decide +kernel
theorem dX1_realign_73 : decode cX1_realign 73 = .ok (.iload 4, 2) := by decide +kernel
theorem dX1_realign_75 : decode cX1_realign 75 = .ok (.invokestatic 80, 3) := by decide +kernel
theorem dX1_realign_78 : decode cX1_realign 78 = .ok (.iload_n 2, 1) := by decide +kernel
theorem dX1_realign_79 : decode cX1_realign 79 = .ok (.iload 5, 2) := by decide +kernel
theorem dX1_realign_81 : decode cX1_realign 81 = .ok (.invokestatic 80, 3) := by decide +kernel
theorem dX1_realign_84 : decode cX1_realign 84 = .ok (.iastore, 1) := by decide +kernel
theorem dX1_realign_85 : decode cX1_realign 85 = .ok (.iload 5, 2) := by decide +kernel
theorem dX1_realign_87 : decode cX1_realign 87 = .ok (.iconst 1, 1) := by decide +kernel
theorem dX1_realign_88 : decode cX1_realign 88 = .ok (.iadd, 1) := by decide +kernel
theorem dX1_realign_89 : decode cX1_realign 89 = .ok (.istore_n 3, 1) := by decide +kernel
theorem dX1_realign_90 : decode cX1_realign 90 = .ok (.iinc 4 1, 3) := by decide +kernel
theorem dX1_realign_93 : decode cX1_realign 93 = .ok (.goto (-70), 3) := by decide +kernel
theorem dX1_realign_96 : decode cX1_realign 96 = .ok (.return_, 1) := by decide +kernel
set_option maxRecDepth 20000 in
theorem ggX1_faceParent_X0_clear : GoodIn wsX1_faceParent wsX0_clear := goodIn_ca (goodIn_r _ [9, 10, 11, 52, 53, 54] rfl (by decide +kernel)) (goodIn_sub (fun _ h => List.mem_cons_of_mem _ (List.mem_append_right _ h)) (by decide +kernel))
set_option maxRecDepth 20000 in
theorem gX1_faceParent_X0_clear : GoodIn wsX1_faceParent (wsV RX1 201 RX0 yX0_clear wsX0_clear) := goodIn_app (goodIn_of _ (by decide +kernel)) ggX1_faceParent_X0_clear
set_option maxRecDepth 20000 in
theorem ggX1_faceParent_X1_parentOf : GoodIn wsX1_faceParent wsX1_parentOf := goodIn_ca (goodIn_r _ [16, 17, 18, 19, 20, 15, 21, 22, 23, 40, 41, 42, 43, 44, 45, 46, 47, 48, 49, 50, 51] rfl (by decide +kernel)) (goodIn_sub (fun _ h => List.mem_cons_of_mem _ (List.mem_append_right _ h)) (by decide +kernel))
set_option maxRecDepth 20000 in
theorem gX1_faceParent_X1_parentOf : GoodIn wsX1_faceParent (wsV RX1 93 RX1 yX1_parentOf wsX1_parentOf) := goodIn_app (goodIn_of _ (by decide +kernel)) ggX1_faceParent_X1_parentOf
set_option maxRecDepth 20000 in
theorem ggX1_faceParent_X1_placeOf : GoodIn wsX1_faceParent wsX1_placeOf := goodIn_r _ [26] rfl (by decide +kernel)
set_option maxRecDepth 20000 in
theorem gX1_faceParent_X1_placeOf : GoodIn wsX1_faceParent (va_wsS RX1 80 yX1_placeOf wsX1_placeOf) := goodIn_app (goodIn_of _ (by decide +kernel)) ggX1_faceParent_X1_placeOf
set_option maxRecDepth 20000 in
theorem ggX1_faceParent_X0_putLine : GoodIn wsX1_faceParent wsX0_putLine := goodIn_ca (goodIn_r _ [30, 10, 31, 15, 32, 33, 34, 8, 35, 52, 53, 54] rfl (by decide +kernel)) (goodIn_sub (fun _ h => List.mem_cons_of_mem _ (List.mem_append_right _ h)) (by decide +kernel))
set_option maxRecDepth 20000 in
theorem gX1_faceParent_X0_putLine : GoodIn wsX1_faceParent (wsV RX1 204 RX0 yX0_putLine wsX0_putLine) := goodIn_app (goodIn_of _ (by decide +kernel)) ggX1_faceParent_X0_putLine
set_option maxRecDepth 20000 in
theorem ggX1_faceParent_X0_putParentLine : GoodIn wsX1_faceParent wsX0_putParentLine := goodIn_ca (goodIn_r _ [39, 11, 31, 15, 32, 33, 34, 8, 35, 52, 53, 54] rfl (by decide +kernel)) (goodIn_sub (fun _ h => List.mem_cons_of_mem _ (List.mem_append_right _ h)) (by decide +kernel))
set_option maxRecDepth 20000 in
theorem gX1_faceParent_X0_putParentLine : GoodIn wsX1_faceParent (wsV RX1 208 RX0 yX0_putParentLine wsX0_putParentLine) := goodIn_app (goodIn_of _ (by decide +kernel)) ggX1_faceParent_X0_putParentLine
theorem dX1_faceParent_0 : decode cX1_faceParent 0 = .ok (.aload_n 0, 1) := by decide +kernel
theorem dX1_faceParent_1 : decode cX1_faceParent 1 = .ok (.getfield 41, 3) := by decide +kernel
theorem dX1_faceParent_4 : decode cX1_faceParent 4 = .ok (.invokevirtual 201, 3) := by decide +kernel
theorem dX1_faceParent_7 : decode cX1_faceParent 7 = .ok (.aload_n 0, 1) := by decide +kernel
theorem dX1_faceParent_8 : decode cX1_faceParent 8 = .ok (.iload_n 1, 1) := by decide +kernel
theorem dX1_faceParent_9 : decode cX1_faceParent 9 = .ok (.invokevirtual 93, 3) := by decide +kernel
theorem dX1_faceParent_12 : decode cX1_faceParent 12 = .ok (.istore_n 2, 1) := by decide +kernel
theorem dX1_faceParent_13 : decode cX1_faceParent 13 = .ok (.iload_n 2, 1) := by decide +kernel
theorem dX1_faceParent_14 : decode cX1_faceParent 14 = .ok (.iconst (-1), 1) := by decide +kernel
theorem dX1_faceParent_15 : decode cX1_faceParent 15 = .ok (.if_icmp .ne 4, 3) := by decide +kernel
theorem dX1_faceParent_18 : decode cX1_faceParent 18 = .ok (.return_, 1) := by decide +kernel
theorem dX1_faceParent_19 : decode cX1_faceParent 19 = .ok (.iconst 0, 1) := by decide +kernel
theorem dX1_faceParent_20 : decode cX1_faceParent 20 = .ok (.istore_n 3, 1) := by decide +kernel
theorem dX1_faceParent_21 : decode cX1_faceParent 21 = .ok (.iload_n 3, 1) := by decide +kernel
theorem dX1_faceParent_22 : decode cX1_faceParent 22 = .ok (.aload_n 0, 1) := by decide +kernel
theorem dX1_faceParent_23 : decode cX1_faceParent 23 = .ok (.getfield 26, 3) := by decide +kernel
theorem dX1_faceParent_26 : decode cX1_faceParent 26 = .ok (.iload_n 1, 1) := by decide +kernel
theorem dX1_faceParent_27 : decode cX1_faceParent 27 = .ok (.iaload, 1) := by decide +kernel
theorem dX1_faceParent_28 : decode cX1_faceParent 28 = .ok (.if_icmp .ge 38, 3) := by decide +kernel
theorem dX1_faceParent_31 : decode cX1_faceParent 31 = .ok (.iload_n 1, 1) := by decide +kernel
theorem dX1_faceParent_32 : decode cX1_faceParent 32 = .ok (.iload_n 3, 1) := by decide +kernel
theorem dX1_faceParent_33 : decode cX1_faceParent 33 = .ok (.invokestatic 80, 3) := by decide +kernel
theorem dX1_faceParent_36 : decode cX1_faceParent 36 = .ok (.istore 4, 2) := by decide +kernel
theorem dX1_faceParent_38 : decode cX1_faceParent 38 = .ok (.aload_n 0, 1) := by decide +kernel
theorem dX1_faceParent_39 : decode cX1_faceParent 39 = .ok (.getfield 41, 3) := by decide +kernel
theorem dX1_faceParent_42 : decode cX1_faceParent 42 = .ok (.iload_n 3, 1) := by decide +kernel
theorem dX1_faceParent_43 : decode cX1_faceParent 43 = .ok (.aload_n 0, 1) := by decide +kernel
theorem dX1_faceParent_44 : decode cX1_faceParent 44 = .ok (.getfield 29, 3) := by decide +kernel
theorem dX1_faceParent_47 : decode cX1_faceParent 47 = .ok (.iload 4, 2) := by decide +kernel
theorem dX1_faceParent_49 : decode cX1_faceParent 49 = .ok (.iaload, 1) := by decide +kernel
theorem dX1_faceParent_50 : decode cX1_faceParent 50 = .ok (.aload_n 0, 1) := by decide +kernel
theorem dX1_faceParent_51 : decode cX1_faceParent 51 = .ok (.getfield 32, 3) := by decide +kernel
theorem dX1_faceParent_54 : decode cX1_faceParent 54 = .ok (.iload 4, 2) := by decide +kernel
theorem dX1_faceParent_56 : decode cX1_faceParent 56 = .ok (.iaload, 1) := by decide +kernel
theorem dX1_faceParent_57 : decode cX1_faceParent 57 = .ok (.invokevirtual 204, 3) := by decide +kernel
theorem dX1_faceParent_60 : decode cX1_faceParent 60 = .ok (.iinc 3 1, 3) := by decide +kernel
theorem dX1_faceParent_63 : decode cX1_faceParent 63 = .ok (.goto (-42), 3) := by decide +kernel
theorem dX1_faceParent_66 : decode cX1_faceParent 66 = .ok (.iconst 0, 1) := by decide +kernel
theorem dX1_faceParent_67 : decode cX1_faceParent 67 = .ok (.istore_n 3, 1) := by decide +kernel
theorem dX1_faceParent_68 : decode cX1_faceParent 68 = .ok (.iload_n 3, 1) := by decide +kernel
theorem dX1_faceParent_69 : decode cX1_faceParent 69 = .ok (.aload_n 0, 1) := by decide +kernel
theorem dX1_faceParent_70 : decode cX1_faceParent 70 = .ok (.getfield 26, 3) := by decide +kernel
theorem dX1_faceParent_73 : decode cX1_faceParent 73 = .ok (.iload_n 2, 1) := by decide +kernel
theorem dX1_faceParent_74 : decode cX1_faceParent 74 = .ok (.iaload, 1) := by decide +kernel
theorem dX1_faceParent_75 : decode cX1_faceParent 75 = .ok (.if_icmp .ge 38, 3) := by decide +kernel
theorem dX1_faceParent_78 : decode cX1_faceParent 78 = .ok (.iload_n 2, 1) := by decide +kernel
theorem dX1_faceParent_79 : decode cX1_faceParent 79 = .ok (.iload_n 3, 1) := by decide +kernel
theorem dX1_faceParent_80 : decode cX1_faceParent 80 = .ok (.invokestatic 80, 3) := by decide +kernel
theorem dX1_faceParent_83 : decode cX1_faceParent 83 = .ok (.istore 4, 2) := by decide +kernel
theorem dX1_faceParent_85 : decode cX1_faceParent 85 = .ok (.aload_n 0, 1) := by decide +kernel
theorem dX1_faceParent_86 : decode cX1_faceParent 86 = .ok (.getfield 41, 3) := by decide +kernel
theorem dX1_faceParent_89 : decode cX1_faceParent 89 = .ok (.iload_n 3, 1) := by decide +kernel
theorem dX1_faceParent_90 : decode cX1_faceParent 90 = .ok (.aload_n 0, 1) := by decide +kernel
theorem dX1_faceParent_91 : decode cX1_faceParent 91 = .ok (.getfield 29, 3) := by decide +kernel
theorem dX1_faceParent_94 : decode cX1_faceParent 94 = .ok (.iload 4, 2) := by decide +kernel
theorem dX1_faceParent_96 : decode cX1_faceParent 96 = .ok (.iaload, 1) := by decide +kernel
theorem dX1_faceParent_97 : decode cX1_faceParent 97 = .ok (.aload_n 0, 1) := by decide +kernel
theorem dX1_faceParent_98 : decode cX1_faceParent 98 = .ok (.getfield 32, 3) := by decide +kernel
theorem dX1_faceParent_101 : decode cX1_faceParent 101 = .ok (.iload 4, 2) := by decide +kernel
theorem dX1_faceParent_103 : decode cX1_faceParent 103 = .ok (.iaload, 1) := by decide +kernel
theorem dX1_faceParent_104 : decode cX1_faceParent 104 = .ok (.invokevirtual 208, 3) := by decide +kernel
theorem dX1_faceParent_107 : decode cX1_faceParent 107 = .ok (.iinc 3 1, 3) := by decide +kernel
theorem dX1_faceParent_110 : decode cX1_faceParent 110 = .ok (.goto (-42), 3) := by decide +kernel
theorem dX1_faceParent_113 : decode cX1_faceParent 113 = .ok (.return_, 1) := by decide +kernel
set_option maxRecDepth 20000 in
theorem ggX1_hasPartner_X1_isLine : GoodIn wsX1_hasPartner wsX1_isLine := goodIn_ca (goodIn_r _ [6, 7, 8, 9, 5, 10, 11, 12, 13, 14, 15, 16, 17, 18, 19, 20, 21, 22, 23, 24, 25, 26, 27, 28] rfl (by decide +kernel)) (goodIn_sub (fun _ h => List.mem_cons_of_mem _ (List.mem_append_right _ h)) (by decide +kernel))
set_option maxRecDepth 20000 in
theorem gX1_hasPartner_X1_isLine : GoodIn wsX1_hasPartner (wsV RX1 154 RX1 yX1_isLine wsX1_isLine) := goodIn_app (goodIn_of _ (by decide +kernel)) ggX1_hasPartner_X1_isLine
theorem dX1_hasPartner_0 : decode cX1_hasPartner 0 = .ok (.aload_n 0, 1) := by decide +kernel
theorem dX1_hasPartner_1 : decode cX1_hasPartner 1 = .ok (.iload_n 1, 1) := by decide +kernel
theorem dX1_hasPartner_2 : decode cX1_hasPartner 2 = .ok (.invokevirtual 154, 3) := by decide +kernel
theorem dX1_hasPartner_5 : decode cX1_hasPartner 5 = .ok (.ifCond .eq 17, 3) := by decide +kernel
theorem dX1_hasPartner_8 : decode cX1_hasPartner 8 = .ok (.aload_n 0, 1) := by decide +kernel
theorem dX1_hasPartner_9 : decode cX1_hasPartner 9 = .ok (.getfield 35, 3) := by decide +kernel
theorem dX1_hasPartner_12 : decode cX1_hasPartner 12 = .ok (.iload_n 1, 1) := by decide +kernel
theorem dX1_hasPartner_13 : decode cX1_hasPartner 13 = .ok (.iaload, 1) := by decide +kernel
theorem dX1_hasPartner_14 : decode cX1_hasPartner 14 = .ok (.iconst (-1), 1) := by decide +kernel
theorem dX1_hasPartner_15 : decode cX1_hasPartner 15 = .ok (.if_icmp .eq 7, 3) := by decide +kernel
theorem dX1_hasPartner_18 : decode cX1_hasPartner 18 = .ok (.iconst 1, 1) := by decide +kernel
theorem dX1_hasPartner_19 : decode cX1_hasPartner 19 = .ok (.goto 4, 3) := by decide +kernel
theorem dX1_hasPartner_22 : decode cX1_hasPartner 22 = .ok (.iconst 0, 1) := by decide +kernel
theorem dX1_hasPartner_23 : decode cX1_hasPartner 23 = .ok (.ireturn, 1) := by decide +kernel
set_option maxRecDepth 20000 in
theorem ggX1_originOf_X1_hasPartner : GoodIn wsX1_originOf wsX1_hasPartner := goodIn_ca (goodIn_r _ [6, 1, 7, 8, 9, 5, 10, 11, 12, 13, 14, 15, 16, 17, 18, 19, 20, 21, 22, 23, 24, 25, 26, 27, 28, 29, 30, 31, 32] rfl (by decide +kernel)) (goodIn_sub (fun _ h => List.mem_cons_of_mem _ (List.mem_append_right _ h)) (by decide +kernel))
set_option maxRecDepth 20000 in
theorem gX1_originOf_X1_hasPartner : GoodIn wsX1_originOf (wsV RX1 121 RX1 yX1_hasPartner wsX1_hasPartner) := goodIn_app (goodIn_of _ (by decide +kernel)) ggX1_originOf_X1_hasPartner
theorem dX1_originOf_0 : decode cX1_originOf 0 = .ok (.iload_n 1, 1) := by decide +kernel
theorem dX1_originOf_1 : decode cX1_originOf 1 = .ok (.istore_n 2, 1) := by decide +kernel
theorem dX1_originOf_2 : decode cX1_originOf 2 = .ok (.iconst 0, 1) := by decide +kernel
theorem dX1_originOf_3 : decode cX1_originOf 3 = .ok (.istore_n 3, 1) := by decide +kernel
theorem dX1_originOf_4 : decode cX1_originOf 4 = .ok (.iload_n 3, 1) := by decide +kernel
theorem dX1_originOf_5 : decode cX1_originOf 5 = .ok (.iconst 3, 1) := by decide +kernel
theorem dX1_originOf_6 : decode cX1_originOf 6 = .ok (.if_icmp .ge 24, 3) := by decide +kernel
theorem dX1_originOf_9 : decode cX1_originOf 9 = .ok (.aload_n 0, 1) := by decide +kernel
theorem dX1_originOf_10 : decode cX1_originOf 10 = .ok (.iload_n 2, 1) := by decide +kernel
theorem dX1_originOf_11 : decode cX1_originOf 11 = .ok (.invokevirtual 121, 3) := by decide +kernel
theorem dX1_originOf_14 : decode cX1_originOf 14 = .ok (.ifCond .eq 16, 3) := by decide +kernel
theorem dX1_originOf_17 : decode cX1_originOf 17 = .ok (.aload_n 0, 1) := by decide +kernel
theorem dX1_originOf_18 : decode cX1_originOf 18 = .ok (.getfield 35, 3) := by decide +kernel
theorem dX1_originOf_21 : decode cX1_originOf 21 = .ok (.iload_n 2, 1) := by decide +kernel
theorem dX1_originOf_22 : decode cX1_originOf 22 = .ok (.iaload, 1) := by decide +kernel
theorem dX1_originOf_23 : decode cX1_originOf 23 = .ok (.istore_n 2, 1) := by decide +kernel
theorem dX1_originOf_24 : decode cX1_originOf 24 = .ok (.iinc 3 1, 3) := by decide +kernel
theorem dX1_originOf_27 : decode cX1_originOf 27 = .ok (.goto (-23), 3) := by decide +kernel
theorem dX1_originOf_30 : decode cX1_originOf 30 = .ok (.iload_n 2, 1) := by decide +kernel
theorem dX1_originOf_31 : decode cX1_originOf 31 = .ok (.ireturn, 1) := by decide +kernel
set_option maxRecDepth 20000 in
theorem ggX1_kindAt_X1_mailAt : GoodIn wsX1_kindAt wsX1_mailAt := goodIn_r _ [6] rfl (by decide +kernel)
set_option maxRecDepth 20000 in
theorem gX1_kindAt_X1_mailAt : GoodIn wsX1_kindAt (va_wsS RX1 132 yX1_mailAt wsX1_mailAt) := goodIn_app (goodIn_of _ (by decide +kernel)) ggX1_kindAt_X1_mailAt
set_option maxRecDepth 20000 in
theorem ggX1_kindAt_X1_lineAt : GoodIn wsX1_kindAt wsX1_lineAt := goodIn_r _ [9] rfl (by decide +kernel)
set_option maxRecDepth 20000 in
theorem gX1_kindAt_X1_lineAt : GoodIn wsX1_kindAt (va_wsS RX1 126 yX1_lineAt wsX1_lineAt) := goodIn_app (goodIn_of _ (by decide +kernel)) ggX1_kindAt_X1_lineAt
set_option maxRecDepth 20000 in
theorem ggX1_kindAt_X1_signatureLength : GoodIn wsX1_kindAt wsX1_signatureLength := goodIn_ca (goodIn_r _ [13, 14, 15, 16, 17, 18, 19, 20, 21, 22, 5, 23, 2, 24, 25, 26, 1, 27, 28, 29, 30, 65, 66, 67, 68, 69, 70, 71, 72, 73, 74, 75, 76] rfl (by decide +kernel)) (goodIn_sub (fun _ h => List.mem_cons_of_mem _ (List.mem_append_right _ h)) (by decide +kernel))
set_option maxRecDepth 20000 in
theorem gX1_kindAt_X1_signatureLength : GoodIn wsX1_kindAt (wsV RX1 139 RX1 yX1_signatureLength wsX1_signatureLength) := goodIn_app (goodIn_of _ (by decide +kernel)) ggX1_kindAt_X1_signatureLength
set_option maxRecDepth 20000 in
theorem ggX1_kindAt_X1_hasPartner : GoodIn wsX1_kindAt wsX1_hasPartner := goodIn_ca (goodIn_r _ [34, 35, 36, 37, 38, 5, 39, 2, 40, 41, 42, 7, 8, 9, 3, 4, 6, 65, 66, 67, 68, 69, 70, 71, 72, 73, 74, 75, 76] rfl (by decide +kernel)) (goodIn_sub (fun _ h => List.mem_cons_of_mem _ (List.mem_append_right _ h)) (by decide +kernel))
set_option maxRecDepth 20000 in
theorem gX1_kindAt_X1_hasPartner : GoodIn wsX1_kindAt (wsV RX1 121 RX1 yX1_hasPartner wsX1_hasPartner) := goodIn_app (goodIn_of _ (by decide +kernel)) ggX1_kindAt_X1_hasPartner
set_option maxRecDepth 20000 in
theorem ggX1_kindAt_X1_answersMissing : GoodIn wsX1_kindAt wsX1_answersMissing := goodIn_ca (goodIn_r _ [46, 47, 48, 49, 50, 5, 51, 52, 53, 54, 55, 14, 56, 65, 66, 67, 68, 69, 70, 71, 72, 73, 74, 75, 76] rfl (by decide +kernel)) (goodIn_sub (fun _ h => List.mem_cons_of_mem _ (List.mem_append_right _ h)) (by decide +kernel))
set_option maxRecDepth 20000 in
theorem gX1_kindAt_X1_answersMissing : GoodIn wsX1_kindAt (wsV RX1 101 RX1 yX1_answersMissing wsX1_answersMissing) := goodIn_app (goodIn_of _ (by decide +kernel)) ggX1_kindAt_X1_answersMissing
set_option maxRecDepth 20000 in
theorem ggX1_kindAt_X1_isDouble : GoodIn wsX1_kindAt wsX1_isDouble := goodIn_ca (goodIn_r _ [60, 1, 27, 47, 36, 37, 38, 5, 39, 2, 40, 41, 42, 7, 8, 9, 3, 4, 6, 61, 62, 63, 64, 56, 65, 66, 67, 68, 69, 70, 71, 72, 73, 74, 75, 76] rfl (by decide +kernel)) (goodIn_sub (fun _ h => List.mem_cons_of_mem _ (List.mem_append_right _ h)) (by decide +kernel))
set_option maxRecDepth 20000 in
theorem gX1_kindAt_X1_isDouble : GoodIn wsX1_kindAt (wsV RX1 211 RX1 yX1_isDouble wsX1_isDouble) := goodIn_app (goodIn_of _ (by decide +kernel)) ggX1_kindAt_X1_isDouble
theorem dX1_kindAt_0 : decode cX1_kindAt 0 = .ok (.iload_n 1, 1) := by decide +kernel
theorem dX1_kindAt_1 : decode cX1_kindAt 1 = .ok (.invokestatic 132, 3) := by decide +kernel
theorem dX1_kindAt_4 : decode cX1_kindAt 4 = .ok (.istore_n 2, 1) := by decide +kernel
theorem dX1_kindAt_5 : decode cX1_kindAt 5 = .ok (.aload_n 0, 1) := by decide +kernel
theorem dX1_kindAt_6 : decode cX1_kindAt 6 = .ok (.getfield 29, 3) := by decide +kernel
theorem dX1_kindAt_9 : decode cX1_kindAt 9 = .ok (.iload_n 1, 1) := by decide +kernel
theorem dX1_kindAt_10 : decode cX1_kindAt 10 = .ok (.iaload, 1) := by decide +kernel
theorem dX1_kindAt_11 : decode cX1_kindAt 11 = .ok (.ifCond .ne 40, 3) := by decide +kernel
theorem dX1_kindAt_14 : decode cX1_kindAt 14 = .ok (.iload_n 1, 1) := by decide +kernel
theorem dX1_kindAt_15 : decode cX1_kindAt 15 = .ok (.invokestatic 126, 3) := by decide +kernel
theorem dX1_kindAt_18 : decode cX1_kindAt 18 = .ok (.aload_n 0, 1) := by decide +kernel
theorem dX1_kindAt_19 : decode cX1_kindAt 19 = .ok (.getfield 26, 3) := by decide +kernel
theorem dX1_kindAt_22 : decode cX1_kindAt 22 = .ok (.iload_n 2, 1) := by decide +kernel
theorem dX1_kindAt_23 : decode cX1_kindAt 23 = .ok (.iaload, 1) := by decide +kernel
theorem dX1_kindAt_24 : decode cX1_kindAt 24 = .ok (.aload_n 0, 1) := by decide +kernel
theorem dX1_kindAt_25 : decode cX1_kindAt 25 = .ok (.iload_n 2, 1) := by decide +kernel
theorem dX1_kindAt_26 : decode cX1_kindAt 26 = .ok (.invokevirtual 139, 3) := by decide +kernel
theorem dX1_kindAt_29 : decode cX1_kindAt 29 = .ok (.isub, 1) := by decide +kernel
theorem dX1_kindAt_30 : decode cX1_kindAt 30 = .ok (.if_icmp .lt 7, 3) := by decide +kernel
theorem dX1_kindAt_33 : decode cX1_kindAt 33 = .ok (.iconst 1, 1) := by decide +kernel
theorem dX1_kindAt_34 : decode cX1_kindAt 34 = .ok (.goto 4, 3) := by decide +kernel
theorem dX1_kindAt_37 : decode cX1_kindAt 37 = .ok (.iconst 0, 1) := by decide +kernel
theorem dX1_kindAt_38 : decode cX1_kindAt 38 = .ok (.istore_n 3, 1) := by decide +kernel
theorem dX1_kindAt_39 : decode cX1_kindAt 39 = .ok (.iload_n 3, 1) := by decide +kernel
theorem dX1_kindAt_40 : decode cX1_kindAt 40 = .ok (.ifCond .eq 8, 3) := by decide +kernel
theorem dX1_kindAt_43 : decode cX1_kindAt 43 = .ok (.bipush 115, 2) := by decide +kernel
theorem dX1_kindAt_45 : decode cX1_kindAt 45 = .ok (.goto 5, 3) := by decide +kernel
theorem dX1_kindAt_48 : decode cX1_kindAt 48 = .ok (.bipush 110, 2) := by decide +kernel
theorem dX1_kindAt_50 : decode cX1_kindAt 50 = .ok (.ireturn, 1) := by decide +kernel
theorem dX1_kindAt_51 : decode cX1_kindAt 51 = .ok (.aload_n 0, 1) := by decide +kernel
theorem dX1_kindAt_52 : decode cX1_kindAt 52 = .ok (.iload_n 1, 1) := by decide +kernel
theorem dX1_kindAt_53 : decode cX1_kindAt 53 = .ok (.invokevirtual 121, 3) := by decide +kernel
theorem dX1_kindAt_56 : decode cX1_kindAt 56 = .ok (.ifCond .eq 6, 3) := by decide +kernel
theorem dX1_kindAt_59 : decode cX1_kindAt 59 = .ok (.bipush 113, 2) := by decide +kernel
theorem dX1_kindAt_61 : decode cX1_kindAt 61 = .ok (.ireturn, 1) := by decide +kernel
theorem dX1_kindAt_62 : decode cX1_kindAt 62 = .ok (.aload_n 0, 1) := by decide +kernel
theorem dX1_kindAt_63 : decode cX1_kindAt 63 = .ok (.getfield 29, 3) := by decide +kernel
theorem dX1_kindAt_66 : decode cX1_kindAt 66 = .ok (.iload_n 1, 1) := by decide +kernel
theorem dX1_kindAt_67 : decode cX1_kindAt 67 = .ok (.iaload, 1) := by decide +kernel
theorem dX1_kindAt_68 : decode cX1_kindAt 68 = .ok (.iconst 1, 1) := by decide +kernel
theorem dX1_kindAt_69 : decode cX1_kindAt 69 = .ok (.if_icmp .ne 27, 3) := by decide +kernel
theorem dX1_kindAt_72 : decode cX1_kindAt 72 = .ok (.aload_n 0, 1) := by decide +kernel
theorem dX1_kindAt_73 : decode cX1_kindAt 73 = .ok (.iload_n 2, 1) := by decide +kernel
theorem dX1_kindAt_74 : decode cX1_kindAt 74 = .ok (.invokevirtual 101, 3) := by decide +kernel
theorem dX1_kindAt_77 : decode cX1_kindAt 77 = .ok (.ifCond .eq 19, 3) := by decide +kernel
theorem dX1_kindAt_80 : decode cX1_kindAt 80 = .ok (.aload_n 0, 1) := by decide +kernel
theorem dX1_kindAt_81 : decode cX1_kindAt 81 = .ok (.iload_n 1, 1) := by decide +kernel
theorem dX1_kindAt_82 : decode cX1_kindAt 82 = .ok (.invokevirtual 211, 3) := by decide +kernel
theorem dX1_kindAt_85 : decode cX1_kindAt 85 = .ok (.ifCond .eq 8, 3) := by decide +kernel
theorem dX1_kindAt_88 : decode cX1_kindAt 88 = .ok (.bipush 100, 2) := by decide +kernel
theorem dX1_kindAt_90 : decode cX1_kindAt 90 = .ok (.goto 5, 3) := by decide +kernel
theorem dX1_kindAt_93 : decode cX1_kindAt 93 = .ok (.bipush 114, 2) := by decide +kernel
theorem dX1_kindAt_95 : decode cX1_kindAt 95 = .ok (.ireturn, 1) := by decide +kernel
theorem dX1_kindAt_96 : decode cX1_kindAt 96 = .ok (.bipush 120, 2) := by decide +kernel
theorem dX1_kindAt_98 : decode cX1_kindAt 98 = .ok (.ireturn, 1) := by decide +kernel
set_option maxRecDepth 20000 in
theorem ggX1_isDouble_X1_isLine : GoodIn wsX1_isDouble wsX1_isLine := goodIn_ca (goodIn_r _ [8, 9, 10, 11, 7, 12, 13, 14, 15, 16, 17, 18, 24, 25, 26, 27, 28, 29, 30, 31, 32, 33, 34, 35] rfl (by decide +kernel)) (goodIn_sub (fun _ h => List.mem_cons_of_mem _ (List.mem_append_right _ h)) (by decide +kernel))
set_option maxRecDepth 20000 in
theorem gX1_isDouble_X1_isLine : GoodIn wsX1_isDouble (wsV RX1 154 RX1 yX1_isLine wsX1_isLine) := goodIn_app (goodIn_of _ (by decide +kernel)) ggX1_isDouble_X1_isLine
set_option maxRecDepth 20000 in
theorem ggX1_isDouble_X1_mailAt : GoodIn wsX1_isDouble wsX1_mailAt := goodIn_r _ [18] rfl (by decide +kernel)
set_option maxRecDepth 20000 in
theorem gX1_isDouble_X1_mailAt : GoodIn wsX1_isDouble (va_wsS RX1 132 yX1_mailAt wsX1_mailAt) := goodIn_app (goodIn_of _ (by decide +kernel)) ggX1_isDouble_X1_mailAt
set_option maxRecDepth 20000 in
theorem ggX1_isDouble_X1_isEarlier : GoodIn wsX1_isDouble wsX1_isEarlier := goodIn_ca (goodIn_r _ [22, 23, 16, 17, 7, 18, 24, 25, 26, 27, 28, 29, 30, 31, 32, 33, 34, 35] rfl (by decide +kernel)) (goodIn_sub (fun _ h => List.mem_cons_of_mem _ (List.mem_append_right _ h)) (by decide +kernel))
set_option maxRecDepth 20000 in
theorem gX1_isDouble_X1_isEarlier : GoodIn wsX1_isDouble (wsV RX1 214 RX1 yX1_isEarlier wsX1_isEarlier) := goodIn_app (goodIn_of _ (by decide +kernel)) ggX1_isDouble_X1_isEarlier
theorem dX1_isDouble_0 : decode cX1_isDouble 0 = .ok (.iconst 0, 1) := by decide +kernel
theorem dX1_isDouble_1 : decode cX1_isDouble 1 = .ok (.istore_n 2, 1) := by decide +kernel
theorem dX1_isDouble_2 : decode cX1_isDouble 2 = .ok (.iload_n 2, 1) := by decide +kernel
theorem dX1_isDouble_3 : decode cX1_isDouble 3 = .ok (.bipush 80, 2) := by decide +kernel
theorem dX1_isDouble_5 : decode cX1_isDouble 5 = .ok (.if_icmp .ge 74, 3) := by decide +kernel
theorem dX1_isDouble_8 : decode cX1_isDouble 8 = .ok (.aload_n 0, 1) := by decide +kernel
theorem dX1_isDouble_9 : decode cX1_isDouble 9 = .ok (.iload_n 2, 1) := by decide +kernel
theorem dX1_isDouble_10 : decode cX1_isDouble 10 = .ok (.invokevirtual 154, 3) := by decide +kernel
theorem dX1_isDouble_13 : decode cX1_isDouble 13 = .ok (.ifCond .eq 60, 3) := by decide +kernel
theorem dX1_isDouble_16 : decode cX1_isDouble 16 = .ok (.aload_n 0, 1) := by decide +kernel
theorem dX1_isDouble_17 : decode cX1_isDouble 17 = .ok (.getfield 29, 3) := by decide +kernel
theorem dX1_isDouble_20 : decode cX1_isDouble 20 = .ok (.iload_n 2, 1) := by decide +kernel
theorem dX1_isDouble_21 : decode cX1_isDouble 21 = .ok (.iaload, 1) := by decide +kernel
theorem dX1_isDouble_22 : decode cX1_isDouble 22 = .ok (.iconst 1, 1) := by decide +kernel
theorem dX1_isDouble_23 : decode cX1_isDouble 23 = .ok (.if_icmp .ne 50, 3) := by decide +kernel
theorem dX1_isDouble_26 : decode cX1_isDouble 26 = .ok (.aload_n 0, 1) := by decide +kernel
theorem dX1_isDouble_27 : decode cX1_isDouble 27 = .ok (.getfield 32, 3) := by decide +kernel
theorem dX1_isDouble_30 : decode cX1_isDouble 30 = .ok (.iload_n 2, 1) := by decide +kernel
theorem dX1_isDouble_31 : decode cX1_isDouble 31 = .ok (.iaload, 1) := by decide +kernel
theorem dX1_isDouble_32 : decode cX1_isDouble 32 = .ok (.aload_n 0, 1) := by decide +kernel
theorem dX1_isDouble_33 : decode cX1_isDouble 33 = .ok (.getfield 32, 3) := by decide +kernel
theorem dX1_isDouble_36 : decode cX1_isDouble 36 = .ok (.iload_n 1, 1) := by decide +kernel
theorem dX1_isDouble_37 : decode cX1_isDouble 37 = .ok (.iaload, 1) := by decide +kernel
theorem dX1_isDouble_38 : decode cX1_isDouble 38 = .ok (.if_icmp .ne 35, 3) := by decide +kernel
theorem dX1_isDouble_41 : decode cX1_isDouble 41 = .ok (.aload_n 0, 1) := by decide +kernel
theorem dX1_isDouble_42 : decode cX1_isDouble 42 = .ok (.getfield 23, 3) := by decide +kernel
theorem dX1_isDouble_45 : decode cX1_isDouble 45 = .ok (.iload_n 2, 1) := by decide +kernel
theorem dX1_isDouble_46 : decode cX1_isDouble 46 = .ok (.invokestatic 132, 3) := by decide +kernel
theorem dX1_isDouble_49 : decode cX1_isDouble 49 = .ok (.iaload, 1) := by decide +kernel
theorem dX1_isDouble_50 : decode cX1_isDouble 50 = .ok (.aload_n 0, 1) := by decide +kernel
theorem dX1_isDouble_51 : decode cX1_isDouble 51 = .ok (.getfield 23, 3) := by decide +kernel
theorem dX1_isDouble_54 : decode cX1_isDouble 54 = .ok (.iload_n 1, 1) := by decide +kernel
theorem dX1_isDouble_55 : decode cX1_isDouble 55 = .ok (.invokestatic 132, 3) := by decide +kernel
theorem dX1_isDouble_58 : decode cX1_isDouble 58 = .ok (.iaload, 1) := by decide +kernel
theorem dX1_isDouble_59 : decode cX1_isDouble 59 = .ok (.if_icmp .ne 14, 3) := by decide +kernel
theorem dX1_isDouble_62 : decode cX1_isDouble 62 = .ok (.aload_n 0, 1) := by decide +kernel
theorem dX1_isDouble_63 : decode cX1_isDouble 63 = .ok (.iload_n 2, 1) := by decide +kernel
theorem dX1_isDouble_64 : decode cX1_isDouble 64 = .ok (.iload_n 1, 1) := by decide +kernel
theorem dX1_isDouble_65 : decode cX1_isDouble 65 = .ok (.invokevirtual 214, 3) := by decide +kernel
theorem dX1_isDouble_68 : decode cX1_isDouble 68 = .ok (.ifCond .eq 5, 3) := by decide +kernel
theorem dX1_isDouble_71 : decode cX1_isDouble 71 = .ok (.iconst 1, 1) := by decide +kernel
theorem dX1_isDouble_72 : decode cX1_isDouble 72 = .ok (.ireturn, 1) := by decide +kernel
theorem dX1_isDouble_73 : decode cX1_isDouble 73 = .ok (.iinc 2 1, 3) := by decide +kernel
theorem dX1_isDouble_76 : decode cX1_isDouble 76 = .ok (.goto (-74), 3) := by decide +kernel
theorem dX1_isDouble_79 : decode cX1_isDouble 79 = .ok (.iconst 0, 1) := by decide +kernel
theorem dX1_isDouble_80 : decode cX1_isDouble 80 = .ok (.ireturn, 1) := by decide +kernel
set_option maxRecDepth 20000 in
theorem ggX1_isEarlier_X1_mailAt : GoodIn wsX1_isEarlier wsX1_mailAt := goodIn_r _ [5] rfl (by decide +kernel)
set_option maxRecDepth 20000 in
theorem gX1_isEarlier_X1_mailAt : GoodIn wsX1_isEarlier (va_wsS RX1 132 yX1_mailAt wsX1_mailAt) := goodIn_app (goodIn_of _ (by decide +kernel)) ggX1_isEarlier_X1_mailAt
theorem dX1_isEarlier_0 : decode cX1_isEarlier 0 = .ok (.iload_n 1, 1) := by decide +kernel
theorem dX1_isEarlier_1 : decode cX1_isEarlier 1 = .ok (.invokestatic 132, 3) := by decide +kernel
theorem dX1_isEarlier_4 : decode cX1_isEarlier 4 = .ok (.iload_n 2, 1) := by decide +kernel
theorem dX1_isEarlier_5 : decode cX1_isEarlier 5 = .ok (.invokestatic 132, 3) := by decide +kernel
theorem dX1_isEarlier_8 : decode cX1_isEarlier 8 = .ok (.if_icmp .ne 14, 3) := by decide +kernel
theorem dX1_isEarlier_11 : decode cX1_isEarlier 11 = .ok (.iload_n 1, 1) := by decide +kernel
theorem dX1_isEarlier_12 : decode cX1_isEarlier 12 = .ok (.iload_n 2, 1) := by decide +kernel
theorem dX1_isEarlier_13 : decode cX1_isEarlier 13 = .ok (.if_icmp .ge 7, 3) := by decide +kernel
theorem dX1_isEarlier_16 : decode cX1_isEarlier 16 = .ok (.iconst 1, 1) := by decide +kernel
theorem dX1_isEarlier_17 : decode cX1_isEarlier 17 = .ok (.goto 4, 3) := by decide +kernel
theorem dX1_isEarlier_20 : decode cX1_isEarlier 20 = .ok (.iconst 0, 1) := by decide +kernel
theorem dX1_isEarlier_21 : decode cX1_isEarlier 21 = .ok (.ireturn, 1) := by decide +kernel
theorem dX1_isEarlier_22 : decode cX1_isEarlier 22 = .ok (.aload_n 0, 1) := by decide +kernel
theorem dX1_isEarlier_23 : decode cX1_isEarlier 23 = .ok (.getfield 13, 3) := by decide +kernel
theorem dX1_isEarlier_26 : decode cX1_isEarlier 26 = .ok (.iload_n 1, 1) := by decide +kernel
theorem dX1_isEarlier_27 : decode cX1_isEarlier 27 = .ok (.invokestatic 132, 3) := by decide +kernel
theorem dX1_isEarlier_30 : decode cX1_isEarlier 30 = .ok (.iaload, 1) := by decide +kernel
theorem dX1_isEarlier_31 : decode cX1_isEarlier 31 = .ok (.aload_n 0, 1) := by decide +kernel
theorem dX1_isEarlier_32 : decode cX1_isEarlier 32 = .ok (.getfield 13, 3) := by decide +kernel
theorem dX1_isEarlier_35 : decode cX1_isEarlier 35 = .ok (.iload_n 2, 1) := by decide +kernel
theorem dX1_isEarlier_36 : decode cX1_isEarlier 36 = .ok (.invokestatic 132, 3) := by decide +kernel
theorem dX1_isEarlier_39 : decode cX1_isEarlier 39 = .ok (.iaload, 1) := by decide +kernel
theorem dX1_isEarlier_40 : decode cX1_isEarlier 40 = .ok (.if_icmp .ge 7, 3) := by decide +kernel
theorem dX1_isEarlier_43 : decode cX1_isEarlier 43 = .ok (.iconst 1, 1) := by decide +kernel
theorem dX1_isEarlier_44 : decode cX1_isEarlier 44 = .ok (.goto 4, 3) := by decide +kernel
theorem dX1_isEarlier_47 : decode cX1_isEarlier 47 = .ok (.iconst 0, 1) := by decide +kernel
theorem dX1_isEarlier_48 : decode cX1_isEarlier 48 = .ok (.ireturn, 1) := by decide +kernel
set_option maxRecDepth 20000 in
theorem ggX1_signatureLength_X1_commonEnd : GoodIn wsX1_signatureLength wsX1_commonEnd := goodIn_ca (goodIn_r _ [11, 12, 13, 14, 5, 15, 16, 17, 18, 19, 10, 20, 21, 22, 23, 24, 25, 26, 27, 28, 29, 30, 31, 32] rfl (by decide +kernel)) (goodIn_sub (fun _ h => List.mem_cons_of_mem _ (List.mem_append_right _ h)) (by decide +kernel))
set_option maxRecDepth 20000 in
theorem gX1_signatureLength_X1_commonEnd : GoodIn wsX1_signatureLength (wsV RX1 218 RX1 yX1_commonEnd wsX1_commonEnd) := goodIn_app (goodIn_of _ (by decide +kernel)) ggX1_signatureLength_X1_commonEnd
theorem dX1_signatureLength_0 : decode cX1_signatureLength 0 = .ok (.iconst 0, 1) := by decide +kernel
theorem dX1_signatureLength_1 : decode cX1_signatureLength 1 = .ok (.istore_n 2, 1) := by decide +kernel
theorem dX1_signatureLength_2 : decode cX1_signatureLength 2 = .ok (.iconst 0, 1) := by decide +kernel
theorem dX1_signatureLength_3 : decode cX1_signatureLength 3 = .ok (.istore_n 3, 1) := by decide +kernel
theorem dX1_signatureLength_4 : decode cX1_signatureLength 4 = .ok (.iload_n 3, 1) := by decide +kernel
theorem dX1_signatureLength_5 : decode cX1_signatureLength 5 = .ok (.aload_n 0, 1) := by decide +kernel
theorem dX1_signatureLength_6 : decode cX1_signatureLength 6 = .ok (.getfield 9, 3) := by decide +kernel
theorem dX1_signatureLength_9 : decode cX1_signatureLength 9 = .ok (.if_icmp .ge 40, 3) := by decide +kernel
theorem dX1_signatureLength_12 : decode cX1_signatureLength 12 = .ok (.iload_n 3, 1) := by decide +kernel
theorem dX1_signatureLength_13 : decode cX1_signatureLength 13 = .ok (.iload_n 1, 1) := by decide +kernel
theorem dX1_signatureLength_14 : decode cX1_signatureLength 14 = .ok (.if_icmp .eq 29, 3) := by decide +kernel
theorem dX1_signatureLength_17 : decode cX1_signatureLength 17 = .ok (.aload_n 0, 1) := by decide +kernel
theorem dX1_signatureLength_18 : decode cX1_signatureLength 18 = .ok (.getfield 17, 3) := by decide +kernel
theorem dX1_signatureLength_21 : decode cX1_signatureLength 21 = .ok (.iload_n 3, 1) := by decide +kernel
theorem dX1_signatureLength_22 : decode cX1_signatureLength 22 = .ok (.iaload, 1) := by decide +kernel
theorem dX1_signatureLength_23 : decode cX1_signatureLength 23 = .ok (.aload_n 0, 1) := by decide +kernel
theorem dX1_signatureLength_24 : decode cX1_signatureLength 24 = .ok (.getfield 17, 3) := by decide +kernel
theorem dX1_signatureLength_27 : decode cX1_signatureLength 27 = .ok (.iload_n 1, 1) := by decide +kernel
theorem dX1_signatureLength_28 : decode cX1_signatureLength 28 = .ok (.iaload, 1) := by decide +kernel
theorem dX1_signatureLength_29 : decode cX1_signatureLength 29 = .ok (.if_icmp .ne 14, 3) := by decide +kernel
theorem dX1_signatureLength_32 : decode cX1_signatureLength 32 = .ok (.iload_n 2, 1) := by decide +kernel
theorem dX1_signatureLength_33 : decode cX1_signatureLength 33 = .ok (.aload_n 0, 1) := by decide +kernel
theorem dX1_signatureLength_34 : decode cX1_signatureLength 34 = .ok (.iload_n 1, 1) := by decide +kernel
theorem dX1_signatureLength_35 : decode cX1_signatureLength 35 = .ok (.iload_n 3, 1) := by decide +kernel
theorem dX1_signatureLength_36 : decode cX1_signatureLength 36 = .ok (.invokevirtual 218, 3) := by decide +kernel
theorem dX1_signatureLength_39 : decode cX1_signatureLength 39 = .ok (.invokestatic 221, 3) := by decide +kernel
theorem dX1_signatureLength_42 : decode cX1_signatureLength 42 = .ok (.istore_n 2, 1) := by decide +kernel
theorem dX1_signatureLength_43 : decode cX1_signatureLength 43 = .ok (.iinc 3 1, 3) := by decide +kernel
theorem dX1_signatureLength_46 : decode cX1_signatureLength 46 = .ok (.goto (-42), 3) := by decide +kernel
theorem dX1_signatureLength_49 : decode cX1_signatureLength 49 = .ok (.iload_n 2, 1) := by decide +kernel
theorem dX1_signatureLength_50 : decode cX1_signatureLength 50 = .ok (.ireturn, 1) := by decide +kernel
set_option maxRecDepth 20000 in
theorem ggX1_commonEnd_X1_placeOf : GoodIn wsX1_commonEnd wsX1_placeOf := goodIn_r _ [11] rfl (by decide +kernel)
set_option maxRecDepth 20000 in
theorem gX1_commonEnd_X1_placeOf : GoodIn wsX1_commonEnd (va_wsS RX1 80 yX1_placeOf wsX1_placeOf) := goodIn_app (goodIn_of _ (by decide +kernel)) ggX1_commonEnd_X1_placeOf
theorem dX1_commonEnd_0 : decode cX1_commonEnd 0 = .ok (.iconst 3, 1) := by decide +kernel
theorem dX1_commonEnd_1 : decode cX1_commonEnd 1 = .ok (.aload_n 0, 1) := by decide +kernel
theorem dX1_commonEnd_2 : decode cX1_commonEnd 2 = .ok (.getfield 26, 3) := by decide +kernel
theorem dX1_commonEnd_5 : decode cX1_commonEnd 5 = .ok (.iload_n 1, 1) := by decide +kernel
theorem dX1_commonEnd_6 : decode cX1_commonEnd 6 = .ok (.iaload, 1) := by decide +kernel
theorem dX1_commonEnd_7 : decode cX1_commonEnd 7 = .ok (.aload_n 0, 1) := by decide +kernel
theorem dX1_commonEnd_8 : decode cX1_commonEnd 8 = .ok (.getfield 26, 3) := by decide +kernel
theorem dX1_commonEnd_11 : decode cX1_commonEnd 11 = .ok (.iload_n 2, 1) := by decide +kernel
theorem dX1_commonEnd_12 : decode cX1_commonEnd 12 = .ok (.iaload, 1) := by decide +kernel
theorem dX1_commonEnd_13 : decode cX1_commonEnd 13 = .ok (.invokestatic 226, 3) := by decide +kernel
theorem dX1_commonEnd_16 : decode cX1_commonEnd 16 = .ok (.invokestatic 226, 3) := by decide +kernel
theorem dX1_commonEnd_19 : decode cX1_commonEnd 19 = .ok (.istore_n 3, 1) := by decide +kernel
theorem dX1_commonEnd_20 : decode cX1_commonEnd 20 = .ok (.iconst 0, 1) := by decide +kernel
theorem dX1_commonEnd_21 : decode cX1_commonEnd 21 = .ok (.istore 4, 2) := by decide +kernel
theorem dX1_commonEnd_23 : decode cX1_commonEnd 23 = .ok (.iload 4, 2) := by decide +kernel
theorem dX1_commonEnd_25 : decode cX1_commonEnd 25 = .ok (.iload_n 3, 1) := by decide +kernel
theorem dX1_commonEnd_26 : decode cX1_commonEnd 26 = .ok (.if_icmp .ge 83, 3) := by decide +kernel
theorem dX1_commonEnd_29 : decode cX1_commonEnd 29 = .ok (.iload_n 1, 1) := by decide +kernel
theorem dX1_commonEnd_30 : decode cX1_commonEnd 30 = .ok (.aload_n 0, 1) := by decide +kernel
theorem dX1_commonEnd_31 : decode cX1_commonEnd 31 = .ok (.getfield 26, 3) := by decide +kernel
theorem dX1_commonEnd_34 : decode cX1_commonEnd 34 = .ok (.iload_n 1, 1) := by decide +kernel
theorem dX1_commonEnd_35 : decode cX1_commonEnd 35 = .ok (.iaload, 1) := by decide +kernel
theorem dX1_commonEnd_36 : decode cX1_commonEnd 36 = .ok (.iconst 1, 1) := by decide +kernel
theorem dX1_commonEnd_37 : decode cX1_commonEnd 37 = .ok (.isub, 1) := by decide +kernel
theorem dX1_commonEnd_38 : decode cX1_commonEnd 38 = .ok (.iload 4, 2) := by decide +kernel
theorem dX1_commonEnd_40 : decode cX1_commonEnd 40 = .ok (.isub, 1) := by decide +kernel
theorem dX1_commonEnd_41 : decode cX1_commonEnd 41 = .ok (.invokestatic 80, 3) := by decide +kernel
theorem dX1_commonEnd_44 : decode cX1_commonEnd 44 = .ok (.istore 5, 2) := by decide +kernel
theorem dX1_commonEnd_46 : decode cX1_commonEnd 46 = .ok (.iload_n 2, 1) := by decide +kernel
theorem dX1_commonEnd_47 : decode cX1_commonEnd 47 = .ok (.aload_n 0, 1) := by decide +kernel
theorem dX1_commonEnd_48 : decode cX1_commonEnd 48 = .ok (.getfield 26, 3) := by decide +kernel
theorem dX1_commonEnd_51 : decode cX1_commonEnd 51 = .ok (.iload_n 2, 1) := by decide +kernel
theorem dX1_commonEnd_52 : decode cX1_commonEnd 52 = .ok (.iaload, 1) := by decide +kernel
theorem dX1_commonEnd_53 : decode cX1_commonEnd 53 = .ok (.iconst 1, 1) := by decide +kernel
theorem dX1_commonEnd_54 : decode cX1_commonEnd 54 = .ok (.isub, 1) := by decide +kernel
theorem dX1_commonEnd_55 : decode cX1_commonEnd 55 = .ok (.iload 4, 2) := by decide +kernel
theorem dX1_commonEnd_57 : decode cX1_commonEnd 57 = .ok (.isub, 1) := by decide +kernel
theorem dX1_commonEnd_58 : decode cX1_commonEnd 58 = .ok (.invokestatic 80, 3) := by decide +kernel
theorem dX1_commonEnd_61 : decode cX1_commonEnd 61 = .ok (.istore 6, 2) := by decide +kernel
theorem dX1_commonEnd_63 : decode cX1_commonEnd 63 = .ok (.aload_n 0, 1) := by decide +kernel
theorem dX1_commonEnd_64 : decode cX1_commonEnd 64 = .ok (.getfield 29, 3) := by decide +kernel
theorem dX1_commonEnd_67 : decode cX1_commonEnd 67 = .ok (.iload 5, 2) := by decide +kernel
theorem dX1_commonEnd_69 : decode cX1_commonEnd 69 = .ok (.iaload, 1) := by decide +kernel
theorem dX1_commonEnd_70 : decode cX1_commonEnd 70 = .ok (.ifCond .ne 30, 3) := by decide +kernel
theorem dX1_commonEnd_73 : decode cX1_commonEnd 73 = .ok (.aload_n 0, 1) := by decide +kernel
theorem dX1_commonEnd_74 : decode cX1_commonEnd 74 = .ok (.getfield 29, 3) := by decide +kernel
theorem dX1_commonEnd_77 : decode cX1_commonEnd 77 = .ok (.iload 6, 2) := by decide +kernel
theorem dX1_commonEnd_79 : decode cX1_commonEnd 79 = .ok (.iaload, 1) := by decide +kernel
theorem dX1_commonEnd_80 : decode cX1_commonEnd 80 = .ok (.ifCond .ne 20, 3) := by decide +kernel
theorem dX1_commonEnd_83 : decode cX1_commonEnd 83 = .ok (.aload_n 0, 1) := by decide +kernel
theorem dX1_commonEnd_84 : decode cX1_commonEnd 84 = .ok (.getfield 32, 3) := by decide +kernel
theorem dX1_commonEnd_87 : decode cX1_commonEnd 87 = .ok (.iload 5, 2) := by decide +kernel
theorem dX1_commonEnd_89 : decode cX1_commonEnd 89 = .ok (.iaload, 1) := by decide +kernel
theorem dX1_commonEnd_90 : decode cX1_commonEnd 90 = .ok (.aload_n 0, 1) := by decide +kernel
theorem dX1_commonEnd_91 : decode cX1_commonEnd 91 = .ok (.getfield 32, 3) := by decide +kernel
theorem dX1_commonEnd_94 : decode cX1_commonEnd 94 = .ok (.iload 6, 2) := by decide +kernel
theorem dX1_commonEnd_96 : decode cX1_commonEnd 96 = .ok (.iaload, 1) := by decide +kernel
theorem dX1_commonEnd_97 : decode cX1_commonEnd 97 = .ok (.if_icmp .eq 6, 3) := by decide +kernel
theorem dX1_commonEnd_100 : decode cX1_commonEnd 100 = .ok (.iload 4, 2) := by decide +kernel
theorem dX1_commonEnd_102 : decode cX1_commonEnd 102 = .ok (.ireturn, 1) := by decide +kernel
theorem dX1_commonEnd_103 : decode cX1_commonEnd 103 = .ok (.iinc 4 1, 3) := by decide +kernel
theorem dX1_commonEnd_106 : decode cX1_commonEnd 106 = .ok (.goto (-83), 3) := by decide +kernel
theorem dX1_commonEnd_109 : decode cX1_commonEnd 109 = .ok (.iload_n 3, 1) := by decide +kernel
theorem dX1_commonEnd_110 : decode cX1_commonEnd 110 = .ok (.ireturn, 1) := by decide +kernel
set_option maxRecDepth 20000 in
theorem ggX1_isNew_X1_isLine : GoodIn wsX1_isNew wsX1_isLine := goodIn_ca (goodIn_r _ [5, 6, 7, 8, 4, 9, 10, 11, 12, 13, 14, 15, 69, 70, 71, 72, 73, 74, 75, 76, 77, 78, 79, 80] rfl (by decide +kernel)) (goodIn_sub (fun _ h => List.mem_cons_of_mem _ (List.mem_append_right _ h)) (by decide +kernel))
set_option maxRecDepth 20000 in
theorem gX1_isNew_X1_isLine : GoodIn wsX1_isNew (wsV RX1 154 RX1 yX1_isLine wsX1_isLine) := goodIn_app (goodIn_of _ (by decide +kernel)) ggX1_isNew_X1_isLine
set_option maxRecDepth 20000 in
theorem ggX1_isNew_X1_kindAt : GoodIn wsX1_isNew wsX1_kindAt := goodIn_ca (goodIn_r _ [19, 20, 6, 13, 14, 4, 15, 10, 11, 12, 21, 22, 23, 24, 25, 26, 27, 28, 29, 30, 31, 32, 33, 34, 35, 36, 37, 38, 39, 40, 41, 42, 43, 44, 45, 46, 1, 2, 3, 5, 7, 8, 9, 47, 48, 49, 50, 51, 52, 53, 54, 55, 56, 57, 58, 59, 60, 61, 62, 63, 64, 65, 66, 67, 68, 69, 70, 71, 72, 73, 74, 75, 76, 77, 78, 79, 80] rfl (by decide +kernel)) (goodIn_sub (fun _ h => List.mem_cons_of_mem _ (List.mem_append_right _ h)) (by decide +kernel))
set_option maxRecDepth 20000 in
theorem gX1_isNew_X1_kindAt : GoodIn wsX1_isNew (wsV RX1 135 RX1 yX1_kindAt wsX1_kindAt) := goodIn_app (goodIn_of _ (by decide +kernel)) ggX1_isNew_X1_kindAt
theorem dX1_isNew_0 : decode cX1_isNew 0 = .ok (.aload_n 0, 1) := by decide +kernel
theorem dX1_isNew_1 : decode cX1_isNew 1 = .ok (.iload_n 1, 1) := by decide +kernel
theorem dX1_isNew_2 : decode cX1_isNew 2 = .ok (.invokevirtual 154, 3) := by decide +kernel
theorem dX1_isNew_5 : decode cX1_isNew 5 = .ok (.ifCond .eq 17, 3) := by decide +kernel
theorem dX1_isNew_8 : decode cX1_isNew 8 = .ok (.aload_n 0, 1) := by decide +kernel
theorem dX1_isNew_9 : decode cX1_isNew 9 = .ok (.iload_n 1, 1) := by decide +kernel
theorem dX1_isNew_10 : decode cX1_isNew 10 = .ok (.invokevirtual 135, 3) := by decide +kernel
theorem dX1_isNew_13 : decode cX1_isNew 13 = .ok (.bipush 110, 2) := by decide +kernel
theorem dX1_isNew_15 : decode cX1_isNew 15 = .ok (.if_icmp .ne 7, 3) := by decide +kernel
theorem dX1_isNew_18 : decode cX1_isNew 18 = .ok (.iconst 1, 1) := by decide +kernel
theorem dX1_isNew_19 : decode cX1_isNew 19 = .ok (.goto 4, 3) := by decide +kernel
theorem dX1_isNew_22 : decode cX1_isNew 22 = .ok (.iconst 0, 1) := by decide +kernel
theorem dX1_isNew_23 : decode cX1_isNew 23 = .ok (.ireturn, 1) := by decide +kernel
set_option maxRecDepth 20000 in
theorem ggX1_isInTalk_X1_isLine : GoodIn wsX1_isInTalk wsX1_isLine := goodIn_ca (goodIn_r _ [5, 6, 7, 8, 4, 9, 10, 11, 12, 13, 14, 15, 69, 70, 71, 72, 73, 74, 75, 76, 77, 78, 79, 80] rfl (by decide +kernel)) (goodIn_sub (fun _ h => List.mem_cons_of_mem _ (List.mem_append_right _ h)) (by decide +kernel))
set_option maxRecDepth 20000 in
theorem gX1_isInTalk_X1_isLine : GoodIn wsX1_isInTalk (wsV RX1 154 RX1 yX1_isLine wsX1_isLine) := goodIn_app (goodIn_of _ (by decide +kernel)) ggX1_isInTalk_X1_isLine
set_option maxRecDepth 20000 in
theorem ggX1_isInTalk_X1_kindAt : GoodIn wsX1_isInTalk wsX1_kindAt := goodIn_ca (goodIn_r _ [19, 20, 6, 13, 14, 4, 15, 10, 11, 12, 21, 22, 23, 24, 25, 26, 27, 28, 29, 30, 31, 32, 33, 34, 35, 36, 37, 38, 39, 40, 41, 42, 43, 44, 45, 46, 1, 2, 3, 5, 7, 8, 9, 47, 48, 49, 50, 51, 52, 53, 54, 55, 56, 57, 58, 59, 60, 61, 62, 63, 64, 65, 66, 67, 68, 69, 70, 71, 72, 73, 74, 75, 76, 77, 78, 79, 80] rfl (by decide +kernel)) (goodIn_sub (fun _ h => List.mem_cons_of_mem _ (List.mem_append_right _ h)) (by decide +kernel))
set_option maxRecDepth 20000 in
theorem gX1_isInTalk_X1_kindAt : GoodIn wsX1_isInTalk (wsV RX1 135 RX1 yX1_kindAt wsX1_kindAt) := goodIn_app (goodIn_of _ (by decide +kernel)) ggX1_isInTalk_X1_kindAt
theorem dX1_isInTalk_0 : decode cX1_isInTalk 0 = .ok (.aload_n 0, 1) := by decide +kernel
theorem dX1_isInTalk_1 : decode cX1_isInTalk 1 = .ok (.iload_n 1, 1) := by decide +kernel
theorem dX1_isInTalk_2 : decode cX1_isInTalk 2 = .ok (.invokevirtual 154, 3) := by decide +kernel
theorem dX1_isInTalk_5 : decode cX1_isInTalk 5 = .ok (.ifCond .ne 5, 3) := by decide +kernel
theorem dX1_isInTalk_8 : decode cX1_isInTalk 8 = .ok (.iconst 0, 1) := by decide +kernel
theorem dX1_isInTalk_9 : decode cX1_isInTalk 9 = .ok (.ireturn, 1) := by decide +kernel
theorem dX1_isInTalk_10 : decode cX1_isInTalk 10 = .ok (.aload_n 0, 1) := by decide +kernel
theorem dX1_isInTalk_11 : decode cX1_isInTalk 11 = .ok (.iload_n 1, 1) := by decide +kernel
theorem dX1_isInTalk_12 : decode cX1_isInTalk 12 = .ok (.invokevirtual 135, 3) := by decide +kernel
theorem dX1_isInTalk_15 : decode cX1_isInTalk 15 = .ok (.istore_n 2, 1) := by decide +kernel
theorem dX1_isInTalk_16 : decode cX1_isInTalk 16 = .ok (.iload_n 2, 1) := by decide +kernel
theorem dX1_isInTalk_17 : decode cX1_isInTalk 17 = .ok (.bipush 110, 2) := by decide +kernel
theorem dX1_isInTalk_19 : decode cX1_isInTalk 19 = .ok (.if_icmp .eq 9, 3) := by decide +kernel
theorem dX1_isInTalk_22 : decode cX1_isInTalk 22 = .ok (.iload_n 2, 1) := by decide +kernel
theorem dX1_isInTalk_23 : decode cX1_isInTalk 23 = .ok (.bipush 114, 2) := by decide +kernel
theorem dX1_isInTalk_25 : decode cX1_isInTalk 25 = .ok (.if_icmp .ne 7, 3) := by decide +kernel
theorem dX1_isInTalk_28 : decode cX1_isInTalk 28 = .ok (.iconst 1, 1) := by decide +kernel
theorem dX1_isInTalk_29 : decode cX1_isInTalk 29 = .ok (.goto 4, 3) := by decide +kernel
theorem dX1_isInTalk_32 : decode cX1_isInTalk 32 = .ok (.iconst 0, 1) := by decide +kernel
theorem dX1_isInTalk_33 : decode cX1_isInTalk 33 = .ok (.ireturn, 1) := by decide +kernel
set_option maxRecDepth 20000 in
theorem ggX1_answeredBy_X1_mailAt : GoodIn wsX1_answeredBy wsX1_mailAt := goodIn_r _ [4] rfl (by decide +kernel)
set_option maxRecDepth 20000 in
theorem gX1_answeredBy_X1_mailAt : GoodIn wsX1_answeredBy (va_wsS RX1 132 yX1_mailAt wsX1_mailAt) := goodIn_app (goodIn_of _ (by decide +kernel)) ggX1_answeredBy_X1_mailAt
set_option maxRecDepth 20000 in
theorem ggX1_answeredBy_X1_placeOf : GoodIn wsX1_answeredBy wsX1_placeOf := goodIn_r _ [7] rfl (by decide +kernel)
set_option maxRecDepth 20000 in
theorem gX1_answeredBy_X1_placeOf : GoodIn wsX1_answeredBy (va_wsS RX1 80 yX1_placeOf wsX1_placeOf) := goodIn_app (goodIn_of _ (by decide +kernel)) ggX1_answeredBy_X1_placeOf
set_option maxRecDepth 20000 in
theorem ggX1_answeredBy_X1_hasPartner : GoodIn wsX1_answeredBy wsX1_hasPartner := goodIn_ca (goodIn_r _ [11, 12, 13, 14, 15, 3, 16, 17, 18, 19, 20, 21, 22, 23, 1, 2, 4, 28, 29, 30, 31, 32, 33, 34, 35, 36, 37, 38, 39] rfl (by decide +kernel)) (goodIn_sub (fun _ h => List.mem_cons_of_mem _ (List.mem_append_right _ h)) (by decide +kernel))
set_option maxRecDepth 20000 in
theorem gX1_answeredBy_X1_hasPartner : GoodIn wsX1_answeredBy (wsV RX1 121 RX1 yX1_hasPartner wsX1_hasPartner) := goodIn_app (goodIn_of _ (by decide +kernel)) ggX1_answeredBy_X1_hasPartner
set_option maxRecDepth 20000 in
theorem ggX1_answeredBy_X1_originOf : GoodIn wsX1_answeredBy wsX1_originOf := goodIn_ca (goodIn_r _ [27, 12, 8, 9, 10, 3, 11, 13, 14, 15, 16, 17, 18, 19, 20, 21, 22, 23, 1, 2, 4, 28, 29, 30, 31, 32, 33, 34, 35, 36, 37, 38, 39] rfl (by decide +kernel)) (goodIn_sub (fun _ h => List.mem_cons_of_mem _ (List.mem_append_right _ h)) (by decide +kernel))
set_option maxRecDepth 20000 in
theorem gX1_answeredBy_X1_originOf : GoodIn wsX1_answeredBy (wsV RX1 129 RX1 yX1_originOf wsX1_originOf) := goodIn_app (goodIn_of _ (by decide +kernel)) ggX1_answeredBy_X1_originOf
theorem dX1_answeredBy_0 : decode cX1_answeredBy 0 = .ok (.iload_n 1, 1) := by decide +kernel
theorem dX1_answeredBy_1 : decode cX1_answeredBy 1 = .ok (.invokestatic 132, 3) := by decide +kernel
theorem dX1_answeredBy_4 : decode cX1_answeredBy 4 = .ok (.iconst 0, 1) := by decide +kernel
theorem dX1_answeredBy_5 : decode cX1_answeredBy 5 = .ok (.invokestatic 80, 3) := by decide +kernel
theorem dX1_answeredBy_8 : decode cX1_answeredBy 8 = .ok (.istore_n 2, 1) := by decide +kernel
theorem dX1_answeredBy_9 : decode cX1_answeredBy 9 = .ok (.iload_n 1, 1) := by decide +kernel
theorem dX1_answeredBy_10 : decode cX1_answeredBy 10 = .ok (.iconst 1, 1) := by decide +kernel
theorem dX1_answeredBy_11 : decode cX1_answeredBy 11 = .ok (.isub, 1) := by decide +kernel
theorem dX1_answeredBy_12 : decode cX1_answeredBy 12 = .ok (.istore_n 3, 1) := by decide +kernel
theorem dX1_answeredBy_13 : decode cX1_answeredBy 13 = .ok (.iload_n 3, 1) := by decide +kernel
theorem dX1_answeredBy_14 : decode cX1_answeredBy 14 = .ok (.iload_n 2, 1) := by decide +kernel
theorem dX1_answeredBy_15 : decode cX1_answeredBy 15 = .ok (.if_icmp .lt 23, 3) := by decide +kernel
theorem dX1_answeredBy_18 : decode cX1_answeredBy 18 = .ok (.aload_n 0, 1) := by decide +kernel
theorem dX1_answeredBy_19 : decode cX1_answeredBy 19 = .ok (.iload_n 3, 1) := by decide +kernel
theorem dX1_answeredBy_20 : decode cX1_answeredBy 20 = .ok (.invokevirtual 121, 3) := by decide +kernel
theorem dX1_answeredBy_23 : decode cX1_answeredBy 23 = .ok (.ifCond .eq 9, 3) := by decide +kernel
theorem dX1_answeredBy_26 : decode cX1_answeredBy 26 = .ok (.aload_n 0, 1) := by decide +kernel
theorem dX1_answeredBy_27 : decode cX1_answeredBy 27 = .ok (.iload_n 3, 1) := by decide +kernel
theorem dX1_answeredBy_28 : decode cX1_answeredBy 28 = .ok (.invokevirtual 129, 3) := by decide +kernel
theorem dX1_answeredBy_31 : decode cX1_answeredBy 31 = .ok (.ireturn, 1) := by decide +kernel
theorem dX1_answeredBy_32 : decode cX1_answeredBy 32 = .ok (.iinc 3 (-1), 3) := by decide +kernel
theorem dX1_answeredBy_35 : decode cX1_answeredBy 35 = .ok (.goto (-22), 3) := by decide +kernel
theorem dX1_answeredBy_38 : decode cX1_answeredBy 38 = .ok (.iconst (-1), 1) := by decide +kernel
theorem dX1_answeredBy_39 : decode cX1_answeredBy 39 = .ok (.ireturn, 1) := by decide +kernel
set_option maxRecDepth 20000 in
theorem ggX1_countOnce_X1_isInTalk : GoodIn wsX1_countOnce wsX1_isInTalk := goodIn_ca (goodIn_r _ [6, 7, 8, 9, 5, 10, 11, 12, 13, 14, 15, 16, 17, 18, 19, 20, 21, 22, 23, 24, 25, 26, 27, 28, 29, 30, 31, 32, 33, 34, 35, 36, 37, 38, 39, 40, 41, 42, 43, 44, 45, 46, 47, 48, 49, 50, 51, 52, 53, 54, 55, 56, 57, 58, 59, 60, 61, 62, 63, 64, 65, 66, 67, 68, 69, 70, 71, 72, 73, 74, 75, 76, 77, 78, 79, 80, 81, 82, 83, 84, 85] rfl (by decide +kernel)) (goodIn_sub (fun _ h => List.mem_cons_of_mem _ (List.mem_append_right _ h)) (by decide +kernel))
set_option maxRecDepth 20000 in
theorem gX1_countOnce_X1_isInTalk : GoodIn wsX1_countOnce (wsV RX1 151 RX1 yX1_isInTalk wsX1_isInTalk) := goodIn_app (goodIn_of _ (by decide +kernel)) ggX1_countOnce_X1_isInTalk
theorem dX1_countOnce_0 : decode cX1_countOnce 0 = .ok (.aload_n 0, 1) := by decide +kernel
theorem dX1_countOnce_1 : decode cX1_countOnce 1 = .ok (.iload_n 1, 1) := by decide +kernel
theorem dX1_countOnce_2 : decode cX1_countOnce 2 = .ok (.invokevirtual 151, 3) := by decide +kernel
theorem dX1_countOnce_5 : decode cX1_countOnce 5 = .ok (.ifCond .eq 12, 3) := by decide +kernel
theorem dX1_countOnce_8 : decode cX1_countOnce 8 = .ok (.aload_n 0, 1) := by decide +kernel
theorem dX1_countOnce_9 : decode cX1_countOnce 9 = .ok (.getfield 45, 3) := by decide +kernel
theorem dX1_countOnce_12 : decode cX1_countOnce 12 = .ok (.iload_n 1, 1) := by decide +kernel
theorem dX1_countOnce_13 : decode cX1_countOnce 13 = .ok (.baload, 1) := by decide +kernel
theorem dX1_countOnce_14 : decode cX1_countOnce 14 = .ok (.ifCond .eq 5, 3) := by decide +kernel
theorem dX1_countOnce_17 : decode cX1_countOnce 17 = .ok (.iconst 0, 1) := by decide +kernel
theorem dX1_countOnce_18 : decode cX1_countOnce 18 = .ok (.ireturn, 1) := by decide +kernel
theorem dX1_countOnce_19 : decode cX1_countOnce 19 = .ok (.aload_n 0, 1) := by decide +kernel
theorem dX1_countOnce_20 : decode cX1_countOnce 20 = .ok (.getfield 45, 3) := by decide +kernel
theorem dX1_countOnce_23 : decode cX1_countOnce 23 = .ok (.iload_n 1, 1) := by decide +kernel
theorem dX1_countOnce_24 : decode cX1_countOnce 24 = .ok (.iconst 1, 1) := by decide +kernel
theorem dX1_countOnce_25 : decode cX1_countOnce 25 = .ok (.bastore, 1) := by decide +kernel
theorem dX1_countOnce_26 : decode cX1_countOnce 26 = .ok (.iconst 1, 1) := by decide +kernel
theorem dX1_countOnce_27 : decode cX1_countOnce 27 = .ok (.ireturn, 1) := by decide +kernel
set_option maxRecDepth 20000 in
theorem ggX1_parentInThread_X1_parentOf : GoodIn wsX1_parentInThread wsX1_parentOf := goodIn_ca (goodIn_r _ [6, 7, 8, 9, 10, 5, 11, 12, 13, 14, 15, 16, 17, 18, 19, 20, 21, 22, 23, 24, 25] rfl (by decide +kernel)) (goodIn_sub (fun _ h => List.mem_cons_of_mem _ (List.mem_append_right _ h)) (by decide +kernel))
set_option maxRecDepth 20000 in
theorem gX1_parentInThread_X1_parentOf : GoodIn wsX1_parentInThread (wsV RX1 93 RX1 yX1_parentOf wsX1_parentOf) := goodIn_app (goodIn_of _ (by decide +kernel)) ggX1_parentInThread_X1_parentOf
theorem dX1_parentInThread_0 : decode cX1_parentInThread 0 = .ok (.aload_n 0, 1) := by decide +kernel
theorem dX1_parentInThread_1 : decode cX1_parentInThread 1 = .ok (.iload_n 1, 1) := by decide +kernel
theorem dX1_parentInThread_2 : decode cX1_parentInThread 2 = .ok (.invokevirtual 93, 3) := by decide +kernel
theorem dX1_parentInThread_5 : decode cX1_parentInThread 5 = .ok (.istore_n 2, 1) := by decide +kernel
theorem dX1_parentInThread_6 : decode cX1_parentInThread 6 = .ok (.iload_n 2, 1) := by decide +kernel
theorem dX1_parentInThread_7 : decode cX1_parentInThread 7 = .ok (.iconst (-1), 1) := by decide +kernel
theorem dX1_parentInThread_8 : decode cX1_parentInThread 8 = .ok (.if_icmp .eq 22, 3) := by decide +kernel
theorem dX1_parentInThread_11 : decode cX1_parentInThread 11 = .ok (.aload_n 0, 1) := by decide +kernel
theorem dX1_parentInThread_12 : decode cX1_parentInThread 12 = .ok (.getfield 20, 3) := by decide +kernel
theorem dX1_parentInThread_15 : decode cX1_parentInThread 15 = .ok (.iload_n 2, 1) := by decide +kernel
theorem dX1_parentInThread_16 : decode cX1_parentInThread 16 = .ok (.iaload, 1) := by decide +kernel
theorem dX1_parentInThread_17 : decode cX1_parentInThread 17 = .ok (.aload_n 0, 1) := by decide +kernel
theorem dX1_parentInThread_18 : decode cX1_parentInThread 18 = .ok (.getfield 20, 3) := by decide +kernel
theorem dX1_parentInThread_21 : decode cX1_parentInThread 21 = .ok (.iload_n 1, 1) := by decide +kernel
theorem dX1_parentInThread_22 : decode cX1_parentInThread 22 = .ok (.iaload, 1) := by decide +kernel
theorem dX1_parentInThread_23 : decode cX1_parentInThread 23 = .ok (.if_icmp .ne 7, 3) := by decide +kernel
theorem dX1_parentInThread_26 : decode cX1_parentInThread 26 = .ok (.iconst 1, 1) := by decide +kernel
theorem dX1_parentInThread_27 : decode cX1_parentInThread 27 = .ok (.goto 4, 3) := by decide +kernel
theorem dX1_parentInThread_30 : decode cX1_parentInThread 30 = .ok (.iconst 0, 1) := by decide +kernel
theorem dX1_parentInThread_31 : decode cX1_parentInThread 31 = .ok (.istore_n 3, 1) := by decide +kernel
theorem dX1_parentInThread_32 : decode cX1_parentInThread 32 = .ok (.iload_n 3, 1) := by decide +kernel
theorem dX1_parentInThread_33 : decode cX1_parentInThread 33 = .ok (.ifCond .eq 7, 3) := by decide +kernel
theorem dX1_parentInThread_36 : decode cX1_parentInThread 36 = .ok (.iload_n 2, 1) := by decide +kernel
theorem dX1_parentInThread_37 : decode cX1_parentInThread 37 = .ok (.goto 4, 3) := by decide +kernel
theorem dX1_parentInThread_40 : decode cX1_parentInThread 40 = .ok (.iconst (-1), 1) := by decide +kernel
theorem dX1_parentInThread_41 : decode cX1_parentInThread 41 = .ok (.ireturn, 1) := by decide +kernel
set_option maxRecDepth 20000 in
theorem ggX1_rootOf_X1_parentInThread : GoodIn wsX1_rootOf wsX1_parentInThread := goodIn_ca (goodIn_r _ [6, 7, 8, 9, 10, 5, 11, 12, 13, 14, 15, 16, 1, 17, 18, 19, 20, 21, 22, 23, 24, 25, 26, 27, 28, 29] rfl (by decide +kernel)) (goodIn_sub (fun _ h => List.mem_cons_of_mem _ (List.mem_append_right _ h)) (by decide +kernel))
set_option maxRecDepth 20000 in
theorem gX1_rootOf_X1_parentInThread : GoodIn wsX1_rootOf (wsV RX1 229 RX1 yX1_parentInThread wsX1_parentInThread) := goodIn_app (goodIn_of _ (by decide +kernel)) ggX1_rootOf_X1_parentInThread
theorem dX1_rootOf_0 : decode cX1_rootOf 0 = .ok (.iload_n 1, 1) := by decide +kernel
theorem dX1_rootOf_1 : decode cX1_rootOf 1 = .ok (.istore_n 2, 1) := by decide +kernel
theorem dX1_rootOf_2 : decode cX1_rootOf 2 = .ok (.iconst 0, 1) := by decide +kernel
theorem dX1_rootOf_3 : decode cX1_rootOf 3 = .ok (.istore_n 3, 1) := by decide +kernel
theorem dX1_rootOf_4 : decode cX1_rootOf 4 = .ok (.iload_n 3, 1) := by decide +kernel
theorem dX1_rootOf_5 : decode cX1_rootOf 5 = .ok (.aload_n 0, 1) := by decide +kernel
theorem dX1_rootOf_6 : decode cX1_rootOf 6 = .ok (.getfield 9, 3) := by decide +kernel
theorem dX1_rootOf_9 : decode cX1_rootOf 9 = .ok (.if_icmp .ge 27, 3) := by decide +kernel
theorem dX1_rootOf_12 : decode cX1_rootOf 12 = .ok (.aload_n 0, 1) := by decide +kernel
theorem dX1_rootOf_13 : decode cX1_rootOf 13 = .ok (.iload_n 2, 1) := by decide +kernel
theorem dX1_rootOf_14 : decode cX1_rootOf 14 = .ok (.invokevirtual 229, 3) := by decide +kernel
theorem dX1_rootOf_17 : decode cX1_rootOf 17 = .ok (.istore 4, 2) := by decide +kernel
theorem dX1_rootOf_19 : decode cX1_rootOf 19 = .ok (.iload 4, 2) := by decide +kernel
theorem dX1_rootOf_21 : decode cX1_rootOf 21 = .ok (.iconst (-1), 1) := by decide +kernel
theorem dX1_rootOf_22 : decode cX1_rootOf 22 = .ok (.if_icmp .ne 5, 3) := by decide +kernel
theorem dX1_rootOf_25 : decode cX1_rootOf 25 = .ok (.iload_n 2, 1) := by decide +kernel
theorem dX1_rootOf_26 : decode cX1_rootOf 26 = .ok (.ireturn, 1) := by decide +kernel
theorem dX1_rootOf_27 : decode cX1_rootOf 27 = .ok (.iload 4, 2) := by decide +kernel
theorem dX1_rootOf_29 : decode cX1_rootOf 29 = .ok (.istore_n 2, 1) := by decide +kernel
theorem dX1_rootOf_30 : decode cX1_rootOf 30 = .ok (.iinc 3 1, 3) := by decide +kernel
theorem dX1_rootOf_33 : decode cX1_rootOf 33 = .ok (.goto (-29), 3) := by decide +kernel
theorem dX1_rootOf_36 : decode cX1_rootOf 36 = .ok (.iload_n 2, 1) := by decide +kernel
theorem dX1_rootOf_37 : decode cX1_rootOf 37 = .ok (.ireturn, 1) := by decide +kernel
set_option maxRecDepth 20000 in
theorem ggX1_takeRootsOfParents_X1_parentInThread : GoodIn wsX1_takeRootsOfParents wsX1_parentInThread := goodIn_ca (goodIn_r _ [7, 8, 9, 10, 11, 6, 12, 13, 14, 15, 16, 17, 1, 18, 19, 20, 21, 22, 23, 24, 25, 26, 27, 28, 29, 30] rfl (by decide +kernel)) (goodIn_sub (fun _ h => List.mem_cons_of_mem _ (List.mem_append_right _ h)) (by decide +kernel))
set_option maxRecDepth 20000 in
theorem gX1_takeRootsOfParents_X1_parentInThread : GoodIn wsX1_takeRootsOfParents (wsV RX1 229 RX1 yX1_parentInThread wsX1_parentInThread) := goodIn_app (goodIn_of _ (by decide +kernel)) ggX1_takeRootsOfParents_X1_parentInThread
theorem dX1_takeRootsOfParents_0 : decode cX1_takeRootsOfParents 0 = .ok (.iconst 0, 1) := by decide +kernel
theorem dX1_takeRootsOfParents_1 : decode cX1_takeRootsOfParents 1 = .ok (.istore_n 1, 1) := by decide +kernel
theorem dX1_takeRootsOfParents_2 : decode cX1_takeRootsOfParents 2 = .ok (.iload_n 1, 1) := by decide +kernel
theorem dX1_takeRootsOfParents_3 : decode cX1_takeRootsOfParents 3 = .ok (.aload_n 0, 1) := by decide +kernel
theorem dX1_takeRootsOfParents_4 : decode cX1_takeRootsOfParents 4 = .ok (.getfield 9, 3) := by decide +kernel
theorem dX1_takeRootsOfParents_7 : decode cX1_takeRootsOfParents 7 = .ok (.if_icmp .ge 32, 3) := by decide +kernel
theorem dX1_takeRootsOfParents_10 : decode cX1_takeRootsOfParents 10 = .ok (.aload_n 0, 1) := by decide +kernel
theorem dX1_takeRootsOfParents_11 : decode cX1_takeRootsOfParents 11 = .ok (.iload_n 1, 1) := by decide +kernel
theorem dX1_takeRootsOfParents_12 : decode cX1_takeRootsOfParents 12 = .ok (.invokevirtual 229, 3) := by decide +kernel
theorem dX1_takeRootsOfParents_15 : decode cX1_takeRootsOfParents 15 = .ok (.istore_n 2, 1) := by decide +kernel
theorem dX1_takeRootsOfParents_16 : decode cX1_takeRootsOfParents 16 = .ok (.iload_n 2, 1) := by decide +kernel
theorem dX1_takeRootsOfParents_17 : decode cX1_takeRootsOfParents 17 = .ok (.iconst (-1), 1) := by decide +kernel
theorem dX1_takeRootsOfParents_18 : decode cX1_takeRootsOfParents 18 = .ok (.if_icmp .eq 15, 3) := by decide +kernel
theorem dX1_takeRootsOfParents_21 : decode cX1_takeRootsOfParents 21 = .ok (.aload_n 0, 1) := by decide +kernel
theorem dX1_takeRootsOfParents_22 : decode cX1_takeRootsOfParents 22 = .ok (.getfield 49, 3) := by decide +kernel
theorem dX1_takeRootsOfParents_25 : decode cX1_takeRootsOfParents 25 = .ok (.iload_n 1, 1) := by decide +kernel
theorem dX1_takeRootsOfParents_26 : decode cX1_takeRootsOfParents 26 = .ok (.aload_n 0, 1) := by decide +kernel
theorem dX1_takeRootsOfParents_27 : decode cX1_takeRootsOfParents 27 = .ok (.getfield 49, 3) := by decide +kernel
theorem dX1_takeRootsOfParents_30 : decode cX1_takeRootsOfParents 30 = .ok (.iload_n 2, 1) := by decide +kernel
theorem dX1_takeRootsOfParents_31 : decode cX1_takeRootsOfParents 31 = .ok (.iaload, 1) := by decide +kernel
theorem dX1_takeRootsOfParents_32 : decode cX1_takeRootsOfParents 32 = .ok (.iastore, 1) := by decide +kernel
theorem dX1_takeRootsOfParents_33 : decode cX1_takeRootsOfParents 33 = .ok (.iinc 1 1, 3) := by decide +kernel
theorem dX1_takeRootsOfParents_36 : decode cX1_takeRootsOfParents 36 = .ok (.goto (-34), 3) := by decide +kernel
theorem dX1_takeRootsOfParents_39 : decode cX1_takeRootsOfParents 39 = .ok (.return_, 1) := by decide +kernel
