theorem dX2_init_0 : decode cX2_init 0 = .ok (.aload_n 0, 1) := by decide +kernel
theorem dX2_init_1 : decode cX2_init 1 = .ok (.invokespecial 1, 3) := by decide +kernel
theorem dX2_init_4 : decode cX2_init 4 = .ok (.aload_n 0, 1) := by decide +kernel
theorem dX2_init_5 : decode cX2_init 5 = .ok (.bipush 10, 2) := by decide +kernel
theorem dX2_init_7 : decode cX2_init 7 = .ok (.newarray .int, 2) := by decide +kernel
theorem dX2_init_9 : decode cX2_init 9 = .ok (.putfield 7, 3) := by decide +kernel
theorem dX2_init_12 : decode cX2_init 12 = .ok (.aload_n 0, 1) := by decide +kernel
theorem dX2_init_13 : decode cX2_init 13 = .ok (.bipush 10, 2) := by decide +kernel
theorem dX2_init_15 : decode cX2_init 15 = .ok (.newarray .int, 2) := by decide +kernel
theorem dX2_init_17 : decode cX2_init 17 = .ok (.putfield 13, 3) := by decide +kernel
theorem dX2_init_20 : decode cX2_init 20 = .ok (.aload_n 0, 1) := by decide +kernel
theorem dX2_init_21 : decode cX2_init 21 = .ok (.bipush 10, 2) := by decide +kernel
theorem dX2_init_23 : decode cX2_init 23 = .ok (.newarray .int, 2) := by decide +kernel
theorem dX2_init_25 : decode cX2_init 25 = .ok (.putfield 16, 3) := by decide +kernel
theorem dX2_init_28 : decode cX2_init 28 = .ok (.aload_n 0, 1) := by decide +kernel
theorem dX2_init_29 : decode cX2_init 29 = .ok (.bipush 10, 2) := by decide +kernel
theorem dX2_init_31 : decode cX2_init 31 = .ok (.newarray .int, 2) := by decide +kernel
theorem dX2_init_33 : decode cX2_init 33 = .ok (.putfield 19, 3) := by decide +kernel
theorem dX2_init_36 : decode cX2_init 36 = .ok (.aload_n 0, 1) := by decide +kernel
theorem dX2_init_37 : decode cX2_init 37 = .ok (.bipush 10, 2) := by decide +kernel
theorem dX2_init_39 : decode cX2_init 39 = .ok (.newarray .int, 2) := by decide +kernel
theorem dX2_init_41 : decode cX2_init 41 = .ok (.putfield 22, 3) := by decide +kernel
theorem dX2_init_44 : decode cX2_init 44 = .ok (.aload_n 0, 1) := by decide +kernel
theorem dX2_init_45 : decode cX2_init 45 = .ok (.bipush 80, 2) := by decide +kernel
theorem dX2_init_47 : decode cX2_init 47 = .ok (.newarray .int, 2) := by decide +kernel
theorem dX2_init_49 : decode cX2_init 49 = .ok (.putfield 25, 3) := by decide +kernel
theorem dX2_init_52 : decode cX2_init 52 = .ok (.aload_n 0, 1) := by decide +kernel
theorem dX2_init_53 : decode cX2_init 53 = .ok (.bipush 80, 2) := by decide +kernel
theorem dX2_init_55 : decode cX2_init 55 = .ok (.newarray .int, 2) := by decide +kernel
theorem dX2_init_57 : decode cX2_init 57 = .ok (.putfield 28, 3) := by decide +kernel
theorem dX2_init_60 : decode cX2_init 60 = .ok (.aload_n 0, 1) := by decide +kernel
theorem dX2_init_61 : decode cX2_init 61 = .ok (.bipush 80, 2) := by decide +kernel
theorem dX2_init_63 : decode cX2_init 63 = .ok (.newarray .int, 2) := by decide +kernel
theorem dX2_init_65 : decode cX2_init 65 = .ok (.putfield 31, 3) := by decide +kernel
theorem dX2_init_68 : decode cX2_init 68 = .ok (.aload_n 0, 1) := by decide +kernel
theorem dX2_init_69 : decode cX2_init 69 = .ok (.bipush 81, 2) := by decide +kernel
theorem dX2_init_71 : decode cX2_init 71 = .ok (.newarray .int, 2) := by decide +kernel
theorem dX2_init_73 : decode cX2_init 73 = .ok (.putfield 34, 3) := by decide +kernel
theorem dX2_init_76 : decode cX2_init 76 = .ok (.return_, 1) := by decide +kernel
theorem dX2_thrown_0 : decode cX2_thrown 0 = .ok (.aload_n 0, 1) := by decide +kernel
theorem dX2_thrown_1 : decode cX2_thrown 1 = .ok (.getfield 37, 3) := by decide +kernel
theorem dX2_thrown_4 : decode cX2_thrown 4 = .ok (.ireturn, 1) := by decide +kernel
theorem dX2_in_0 : decode cX2_in 0 = .ok (.iload_n 0, 1) := by decide +kernel
theorem dX2_in_1 : decode cX2_in 1 = .ok (.iload_n 1, 1) := by decide +kernel
theorem dX2_in_2 : decode cX2_in 2 = .ok (.if_icmp .lt 12, 3) := by decide +kernel
theorem dX2_in_5 : decode cX2_in 5 = .ok (.iload_n 0, 1) := by decide +kernel
theorem dX2_in_6 : decode cX2_in 6 = .ok (.iload_n 2, 1) := by decide +kernel
theorem dX2_in_7 : decode cX2_in 7 = .ok (.if_icmp .gt 7, 3) := by decide +kernel
theorem dX2_in_10 : decode cX2_in 10 = .ok (.iconst 1, 1) := by decide +kernel
theorem dX2_in_11 : decode cX2_in 11 = .ok (.goto 4, 3) := by decide +kernel
theorem dX2_in_14 : decode cX2_in 14 = .ok (.iconst 0, 1) := by decide +kernel
theorem dX2_in_15 : decode cX2_in 15 = .ok (.ireturn, 1) := by decide +kernel
theorem dX2_fails_0 : decode cX2_fails 0 = .ok (.aload_n 0, 1) := by decide +kernel
theorem dX2_fails_1 : decode cX2_fails 1 = .ok (.iload_n 1, 1) := by decide +kernel
theorem dX2_fails_2 : decode cX2_fails 2 = .ok (.putfield 37, 3) := by decide +kernel
theorem dX2_fails_5 : decode cX2_fails 5 = .ok (.iconst 0, 1) := by decide +kernel
theorem dX2_fails_6 : decode cX2_fails 6 = .ok (.ireturn, 1) := by decide +kernel
theorem dX2_tells_0 : decode cX2_tells 0 = .ok (.aload_n 0, 1) := by decide +kernel
theorem dX2_tells_1 : decode cX2_tells 1 = .ok (.iconst 0, 1) := by decide +kernel
theorem dX2_tells_2 : decode cX2_tells 2 = .ok (.putfield 37, 3) := by decide +kernel
theorem dX2_tells_5 : decode cX2_tells 5 = .ok (.iload_n 1, 1) := by decide +kernel
theorem dX2_tells_6 : decode cX2_tells 6 = .ok (.ireturn, 1) := by decide +kernel
set_option maxRecDepth 20000 in
theorem ggX2_isMail_X2_in : GoodIn wsX2_isMail wsX2_in := goodIn_r _ [5] rfl (by decide +kernel)
set_option maxRecDepth 20000 in
theorem gX2_isMail_X2_in : GoodIn wsX2_isMail (va_wsS RX2 44 yX2_in wsX2_in) := goodIn_app (goodIn_of _ (by decide +kernel)) ggX2_isMail_X2_in
theorem dX2_isMail_0 : decode cX2_isMail 0 = .ok (.iload_n 1, 1) := by decide +kernel
theorem dX2_isMail_1 : decode cX2_isMail 1 = .ok (.iconst 0, 1) := by decide +kernel
theorem dX2_isMail_2 : decode cX2_isMail 2 = .ok (.aload_n 0, 1) := by decide +kernel
theorem dX2_isMail_3 : decode cX2_isMail 3 = .ok (.getfield 41, 3) := by decide +kernel
theorem dX2_isMail_6 : decode cX2_isMail 6 = .ok (.iconst 1, 1) := by decide +kernel
theorem dX2_isMail_7 : decode cX2_isMail 7 = .ok (.isub, 1) := by decide +kernel
theorem dX2_isMail_8 : decode cX2_isMail 8 = .ok (.invokestatic 44, 3) := by decide +kernel
theorem dX2_isMail_11 : decode cX2_isMail 11 = .ok (.ireturn, 1) := by decide +kernel
set_option maxRecDepth 20000 in
theorem ggX2_isLine_X2_isMail : GoodIn wsX2_isLine wsX2_isMail := goodIn_r _ [6, 7, 8, 9, 5, 10, 11, 12, 13, 14, 15, 16, 17, 18, 19, 20, 21] rfl (by decide +kernel)
set_option maxRecDepth 20000 in
theorem gX2_isLine_X2_isMail : GoodIn wsX2_isLine (wsV RX2 48 RX2 yX2_isMail wsX2_isMail) := goodIn_app (goodIn_of _ (by decide +kernel)) ggX2_isLine_X2_isMail
set_option maxRecDepth 20000 in
theorem ggX2_isLine_X2_in : GoodIn wsX2_isLine wsX2_in := goodIn_r _ [10] rfl (by decide +kernel)
set_option maxRecDepth 20000 in
theorem gX2_isLine_X2_in : GoodIn wsX2_isLine (va_wsS RX2 44 yX2_in wsX2_in) := goodIn_app (goodIn_of _ (by decide +kernel)) ggX2_isLine_X2_in
theorem dX2_isLine_0 : decode cX2_isLine 0 = .ok (.aload_n 0, 1) := by decide +kernel
theorem dX2_isLine_1 : decode cX2_isLine 1 = .ok (.iload_n 1, 1) := by decide +kernel
theorem dX2_isLine_2 : decode cX2_isLine 2 = .ok (.invokevirtual 48, 3) := by decide +kernel
theorem dX2_isLine_5 : decode cX2_isLine 5 = .ok (.ifCond .eq 23, 3) := by decide +kernel
theorem dX2_isLine_8 : decode cX2_isLine 8 = .ok (.iload_n 2, 1) := by decide +kernel
theorem dX2_isLine_9 : decode cX2_isLine 9 = .ok (.iconst 0, 1) := by decide +kernel
theorem dX2_isLine_10 : decode cX2_isLine 10 = .ok (.aload_n 0, 1) := by decide +kernel
theorem dX2_isLine_11 : decode cX2_isLine 11 = .ok (.getfield 22, 3) := by decide +kernel
theorem dX2_isLine_14 : decode cX2_isLine 14 = .ok (.iload_n 1, 1) := by decide +kernel
theorem dX2_isLine_15 : decode cX2_isLine 15 = .ok (.iaload, 1) := by decide +kernel
theorem dX2_isLine_16 : decode cX2_isLine 16 = .ok (.iconst 1, 1) := by decide +kernel
theorem dX2_isLine_17 : decode cX2_isLine 17 = .ok (.isub, 1) := by decide +kernel
theorem dX2_isLine_18 : decode cX2_isLine 18 = .ok (.invokestatic 44, 3) := by decide +kernel
theorem dX2_isLine_21 : decode cX2_isLine 21 = .ok (.ifCond .eq 7, 3) := by decide +kernel
theorem dX2_isLine_24 : decode cX2_isLine 24 = .ok (.iconst 1, 1) := by decide +kernel
theorem dX2_isLine_25 : decode cX2_isLine 25 = .ok (.goto 4, 3) := by decide +kernel
theorem dX2_isLine_28 : decode cX2_isLine 28 = .ok (.iconst 0, 1) := by decide +kernel
theorem dX2_isLine_29 : decode cX2_isLine 29 = .ok (.ireturn, 1) := by decide +kernel
theorem dX2_dated_0 : decode cX2_dated 0 = .ok (.iconst (-1), 1) := by decide +kernel
theorem dX2_dated_1 : decode cX2_dated 1 = .ok (.istore_n 2, 1) := by decide +kernel
theorem dX2_dated_2 : decode cX2_dated 2 = .ok (.iconst 0, 1) := by decide +kernel
theorem dX2_dated_3 : decode cX2_dated 3 = .ok (.istore_n 3, 1) := by decide +kernel
theorem dX2_dated_4 : decode cX2_dated 4 = .ok (.iload_n 3, 1) := by decide +kernel
theorem dX2_dated_5 : decode cX2_dated 5 = .ok (.aload_n 0, 1) := by decide +kernel
theorem dX2_dated_6 : decode cX2_dated 6 = .ok (.getfield 41, 3) := by decide +kernel
theorem dX2_dated_9 : decode cX2_dated 9 = .ok (.if_icmp .ge 25, 3) := by decide +kernel
theorem dX2_dated_12 : decode cX2_dated 12 = .ok (.aload_n 0, 1) := by decide +kernel
theorem dX2_dated_13 : decode cX2_dated 13 = .ok (.getfield 7, 3) := by decide +kernel
theorem dX2_dated_16 : decode cX2_dated 16 = .ok (.iload_n 3, 1) := by decide +kernel
theorem dX2_dated_17 : decode cX2_dated 17 = .ok (.iaload, 1) := by decide +kernel
theorem dX2_dated_18 : decode cX2_dated 18 = .ok (.iload_n 1, 1) := by decide +kernel
theorem dX2_dated_19 : decode cX2_dated 19 = .ok (.if_icmp .ne 7, 3) := by decide +kernel
theorem dX2_dated_22 : decode cX2_dated 22 = .ok (.iload_n 3, 1) := by decide +kernel
theorem dX2_dated_23 : decode cX2_dated 23 = .ok (.goto 4, 3) := by decide +kernel
theorem dX2_dated_26 : decode cX2_dated 26 = .ok (.iload_n 2, 1) := by decide +kernel
theorem dX2_dated_27 : decode cX2_dated 27 = .ok (.istore_n 2, 1) := by decide +kernel
theorem dX2_dated_28 : decode cX2_dated 28 = .ok (.iinc 3 1, 3) := by decide +kernel
theorem dX2_dated_31 : decode cX2_dated 31 = .ok (.goto (-27), 3) := by decide +kernel
theorem dX2_dated_34 : decode cX2_dated 34 = .ok (.iload_n 2, 1) := by decide +kernel
theorem dX2_dated_35 : decode cX2_dated 35 = .ok (.ireturn, 1) := by decide +kernel
set_option maxRecDepth 20000 in
theorem ggX2_arrive_X2_in : GoodIn wsX2_arrive wsX2_in := goodIn_r _ [9] rfl (by decide +kernel)
set_option maxRecDepth 20000 in
theorem gX2_arrive_X2_in : GoodIn wsX2_arrive (va_wsS RX2 44 yX2_in wsX2_in) := goodIn_app (goodIn_of _ (by decide +kernel)) ggX2_arrive_X2_in
set_option maxRecDepth 20000 in
theorem ggX2_arrive_X2_dated : GoodIn wsX2_arrive wsX2_dated := goodIn_ca (goodIn_r _ [13, 1, 2, 23, 24, 25, 26, 27, 28, 29, 30, 31, 32, 33] rfl (by decide +kernel)) (goodIn_sub (fun _ h => List.mem_cons_of_mem _ (List.mem_append_right _ h)) (by decide +kernel))
set_option maxRecDepth 20000 in
theorem gX2_arrive_X2_dated : GoodIn wsX2_arrive (wsV RX2 52 RX2 yX2_dated wsX2_dated) := goodIn_app (goodIn_of _ (by decide +kernel)) ggX2_arrive_X2_dated
set_option maxRecDepth 20000 in
theorem ggX2_arrive_X2_fails : GoodIn wsX2_arrive wsX2_fails := goodIn_r _ [17, 18, 23, 24, 25, 26, 27, 28, 29, 30, 31, 32, 33] rfl (by decide +kernel)
set_option maxRecDepth 20000 in
theorem gX2_arrive_X2_fails : GoodIn wsX2_arrive (wsV RX2 56 RX2 yX2_fails wsX2_fails) := goodIn_app (goodIn_of _ (by decide +kernel)) ggX2_arrive_X2_fails
set_option maxRecDepth 20000 in
theorem ggX2_arrive_X2_tells : GoodIn wsX2_arrive wsX2_tells := goodIn_r _ [22, 18, 23, 24, 25, 26, 27, 28, 29, 30, 31, 32, 33] rfl (by decide +kernel)
set_option maxRecDepth 20000 in
theorem gX2_arrive_X2_tells : GoodIn wsX2_arrive (wsV RX2 59 RX2 yX2_tells wsX2_tells) := goodIn_app (goodIn_of _ (by decide +kernel)) ggX2_arrive_X2_tells
theorem dX2_arrive_0 : decode cX2_arrive 0 = .ok (.iload_n 1, 1) := by decide +kernel
theorem dX2_arrive_1 : decode cX2_arrive 1 = .ok (.iconst 1, 1) := by decide +kernel
theorem dX2_arrive_2 : decode cX2_arrive 2 = .ok (.bipush 99, 2) := by decide +kernel
theorem dX2_arrive_4 : decode cX2_arrive 4 = .ok (.invokestatic 44, 3) := by decide +kernel
theorem dX2_arrive_7 : decode cX2_arrive 7 = .ok (.ifCond .eq 43, 3) := by decide +kernel
theorem dX2_arrive_10 : decode cX2_arrive 10 = .ok (.iload_n 2, 1) := by decide +kernel
theorem dX2_arrive_11 : decode cX2_arrive 11 = .ok (.iconst 0, 1) := by decide +kernel
theorem dX2_arrive_12 : decode cX2_arrive 12 = .ok (.iconst 5, 1) := by decide +kernel
theorem dX2_arrive_13 : decode cX2_arrive 13 = .ok (.invokestatic 44, 3) := by decide +kernel
theorem dX2_arrive_16 : decode cX2_arrive 16 = .ok (.ifCond .eq 34, 3) := by decide +kernel
theorem dX2_arrive_19 : decode cX2_arrive 19 = .ok (.iload_n 3, 1) := by decide +kernel
theorem dX2_arrive_20 : decode cX2_arrive 20 = .ok (.iconst 0, 1) := by decide +kernel
theorem dX2_arrive_21 : decode cX2_arrive 21 = .ok (.bipush 9, 2) := by decide +kernel
theorem dX2_arrive_23 : decode cX2_arrive 23 = .ok (.invokestatic 44, 3) := by decide +kernel
theorem dX2_arrive_26 : decode cX2_arrive 26 = .ok (.ifCond .eq 24, 3) := by decide +kernel
theorem dX2_arrive_29 : decode cX2_arrive 29 = .ok (.iload 4, 2) := by decide +kernel
theorem dX2_arrive_31 : decode cX2_arrive 31 = .ok (.iconst 0, 1) := by decide +kernel
theorem dX2_arrive_32 : decode cX2_arrive 32 = .ok (.iload_n 1, 1) := by decide +kernel
theorem dX2_arrive_33 : decode cX2_arrive 33 = .ok (.iconst 1, 1) := by decide +kernel
theorem dX2_arrive_34 : decode cX2_arrive 34 = .ok (.isub, 1) := by decide +kernel
theorem dX2_arrive_35 : decode cX2_arrive 35 = .ok (.invokestatic 44, 3) := by decide +kernel
theorem dX2_arrive_38 : decode cX2_arrive 38 = .ok (.ifCond .eq 12, 3) := by decide +kernel
theorem dX2_arrive_41 : decode cX2_arrive 41 = .ok (.aload_n 0, 1) := by decide +kernel
theorem dX2_arrive_42 : decode cX2_arrive 42 = .ok (.iload_n 1, 1) := by decide +kernel
theorem dX2_arrive_43 : decode cX2_arrive 43 = .ok (.invokevirtual 52, 3) := by decide +kernel
theorem dX2_arrive_46 : decode cX2_arrive 46 = .ok (.iconst (-1), 1) := by decide +kernel
theorem dX2_arrive_47 : decode cX2_arrive 47 = .ok (.if_icmp .eq 9, 3) := by decide +kernel
theorem dX2_arrive_50 : decode cX2_arrive 50 = .ok (.aload_n 0, 1) := by decide +kernel
theorem dX2_arrive_51 : decode cX2_arrive 51 = .ok (.iconst 1, 1) := by decide +kernel
theorem dX2_arrive_52 : decode cX2_arrive 52 = .ok (.invokevirtual 56, 3) := by decide +kernel
theorem dX2_arrive_55 : decode cX2_arrive 55 = .ok (.ireturn, 1) := by decide +kernel
theorem dX2_arrive_56 : decode cX2_arrive 56 = .ok (.aload_n 0, 1) := by decide +kernel
theorem dX2_arrive_57 : decode cX2_arrive 57 = .ok (.getfield 41, 3) := by decide +kernel
theorem dX2_arrive_60 : decode cX2_arrive 60 = .ok (.bipush 10, 2) := by decide +kernel
theorem dX2_arrive_62 : decode cX2_arrive 62 = .ok (.if_icmp .ne 9, 3) := by decide +kernel
theorem dX2_arrive_65 : decode cX2_arrive 65 = .ok (.aload_n 0, 1) := by decide +kernel
theorem dX2_arrive_66 : decode cX2_arrive 66 = .ok (.iconst 2, 1) := by decide +kernel
theorem dX2_arrive_67 : decode cX2_arrive 67 = .ok (.invokevirtual 56, 3) := by decide +kernel
theorem dX2_arrive_70 : decode cX2_arrive 70 = .ok (.ireturn, 1) := by decide +kernel
theorem dX2_arrive_71 : decode cX2_arrive 71 = .ok (.aload_n 0, 1) := by decide +kernel
theorem dX2_arrive_72 : decode cX2_arrive 72 = .ok (.getfield 7, 3) := by decide +kernel
theorem dX2_arrive_75 : decode cX2_arrive 75 = .ok (.aload_n 0, 1) := by decide +kernel
theorem dX2_arrive_76 : decode cX2_arrive 76 = .ok (.getfield 41, 3) := by decide +kernel
theorem dX2_arrive_79 : decode cX2_arrive 79 = .ok (.iload_n 1, 1) := by decide +kernel
theorem dX2_arrive_80 : decode cX2_arrive 80 = .ok (.iastore, 1) := by decide +kernel
theorem dX2_arrive_81 : decode cX2_arrive 81 = .ok (.aload_n 0, 1) := by decide +kernel
theorem dX2_arrive_82 : decode cX2_arrive 82 = .ok (.getfield 13, 3) := by decide +kernel
theorem dX2_arrive_85 : decode cX2_arrive 85 = .ok (.aload_n 0, 1) := by decide +kernel
theorem dX2_arrive_86 : decode cX2_arrive 86 = .ok (.getfield 41, 3) := by decide +kernel
theorem dX2_arrive_89 : decode cX2_arrive 89 = .ok (.iload_n 2, 1) := by decide +kernel
theorem dX2_arrive_90 : decode cX2_arrive 90 = .ok (.iastore, 1) := by decide +kernel
theorem dX2_arrive_91 : decode cX2_arrive 91 = .ok (.aload_n 0, 1) := by decide +kernel
theorem dX2_arrive_92 : decode cX2_arrive 92 = .ok (.getfield 16, 3) := by decide +kernel
theorem dX2_arrive_95 : decode cX2_arrive 95 = .ok (.aload_n 0, 1) := by decide +kernel
theorem dX2_arrive_96 : decode cX2_arrive 96 = .ok (.getfield 41, 3) := by decide +kernel
theorem dX2_arrive_99 : decode cX2_arrive 99 = .ok (.iload_n 3, 1) := by decide +kernel
theorem dX2_arrive_100 : decode cX2_arrive 100 = .ok (.iastore, 1) := by decide +kernel
theorem dX2_arrive_101 : decode cX2_arrive 101 = .ok (.aload_n 0, 1) := by decide +kernel
theorem dX2_arrive_102 : decode cX2_arrive 102 = .ok (.getfield 19, 3) := by decide +kernel
theorem dX2_arrive_105 : decode cX2_arrive 105 = .ok (.aload_n 0, 1) := by decide +kernel
theorem dX2_arrive_106 : decode cX2_arrive 106 = .ok (.getfield 41, 3) := by decide +kernel
theorem dX2_arrive_109 : decode cX2_arrive 109 = .ok (.iload 4, 2) := by decide +kernel
theorem dX2_arrive_111 : decode cX2_arrive 111 = .ok (.iastore, 1) := by decide +kernel
theorem dX2_arrive_112 : decode cX2_arrive 112 = .ok (.aload_n 0, 1) := by decide +kernel
theorem dX2_arrive_113 : decode cX2_arrive 113 = .ok (.dup, 1) := by decide +kernel
theorem dX2_arrive_114 : decode cX2_arrive 114 = .ok (.getfield 41, 3) := by decide +kernel
theorem dX2_arrive_117 : decode cX2_arrive 117 = .ok (.iconst 1, 1) := by decide +kernel
theorem dX2_arrive_118 : decode cX2_arrive 118 = .ok (.iadd, 1) := by decide +kernel
theorem dX2_arrive_119 : decode cX2_arrive 119 = .ok (.putfield 41, 3) := by decide +kernel
theorem dX2_arrive_122 : decode cX2_arrive 122 = .ok (.aload_n 0, 1) := by decide +kernel
theorem dX2_arrive_123 : decode cX2_arrive 123 = .ok (.aload_n 0, 1) := by decide +kernel
theorem dX2_arrive_124 : decode cX2_arrive 124 = .ok (.getfield 41, 3) := by decide +kernel
theorem dX2_arrive_127 : decode cX2_arrive 127 = .ok (.iconst 1, 1) := by decide +kernel
theorem dX2_arrive_128 : decode cX2_arrive 128 = .ok (.isub, 1) := by decide +kernel
theorem dX2_arrive_129 : decode cX2_arrive 129 = .ok (.invokevirtual 59, 3) := by decide +kernel
theorem dX2_arrive_132 : decode cX2_arrive 132 = .ok (.ireturn, 1) := by decide +kernel
set_option maxRecDepth 20000 in
theorem ggX2_addLine_X2_isMail : GoodIn wsX2_addLine wsX2_isMail := goodIn_r _ [8, 9, 10, 11, 7, 12, 22, 23, 24, 25, 26, 27, 28, 29, 30, 31, 32] rfl (by decide +kernel)
set_option maxRecDepth 20000 in
theorem gX2_addLine_X2_isMail : GoodIn wsX2_addLine (wsV RX2 48 RX2 yX2_isMail wsX2_isMail) := goodIn_app (goodIn_of _ (by decide +kernel)) ggX2_addLine_X2_isMail
set_option maxRecDepth 20000 in
theorem ggX2_addLine_X2_fails : GoodIn wsX2_addLine wsX2_fails := goodIn_r _ [16, 17, 22, 23, 24, 25, 26, 27, 28, 29, 30, 31, 32] rfl (by decide +kernel)
set_option maxRecDepth 20000 in
theorem gX2_addLine_X2_fails : GoodIn wsX2_addLine (wsV RX2 56 RX2 yX2_fails wsX2_fails) := goodIn_app (goodIn_of _ (by decide +kernel)) ggX2_addLine_X2_fails
set_option maxRecDepth 20000 in
theorem ggX2_addLine_X2_in : GoodIn wsX2_addLine wsX2_in := goodIn_r _ [12] rfl (by decide +kernel)
set_option maxRecDepth 20000 in
theorem gX2_addLine_X2_in : GoodIn wsX2_addLine (va_wsS RX2 44 yX2_in wsX2_in) := goodIn_app (goodIn_of _ (by decide +kernel)) ggX2_addLine_X2_in
set_option maxRecDepth 20000 in
theorem ggX2_addLine_X2_tells : GoodIn wsX2_addLine wsX2_tells := goodIn_r _ [21, 17, 22, 23, 24, 25, 26, 27, 28, 29, 30, 31, 32] rfl (by decide +kernel)
set_option maxRecDepth 20000 in
theorem gX2_addLine_X2_tells : GoodIn wsX2_addLine (wsV RX2 59 RX2 yX2_tells wsX2_tells) := goodIn_app (goodIn_of _ (by decide +kernel)) ggX2_addLine_X2_tells
theorem dX2_addLine_0 : decode cX2_addLine 0 = .ok (.aload_n 0, 1) := by decide +kernel
theorem dX2_addLine_1 : decode cX2_addLine 1 = .ok (.iload_n 1, 1) := by decide +kernel
theorem dX2_addLine_2 : decode cX2_addLine 2 = .ok (.invokevirtual 48, 3) := by decide +kernel
theorem dX2_addLine_5 : decode cX2_addLine 5 = .ok (.ifCond .ne 9, 3) := by decide +kernel
theorem dX2_addLine_8 : decode cX2_addLine 8 = .ok (.aload_n 0, 1) := by decide +kernel
theorem dX2_addLine_9 : decode cX2_addLine 9 = .ok (.iconst 1, 1) := by decide +kernel
theorem dX2_addLine_10 : decode cX2_addLine 10 = .ok (.invokevirtual 56, 3) := by decide +kernel
theorem dX2_addLine_13 : decode cX2_addLine 13 = .ok (.ireturn, 1) := by decide +kernel
theorem dX2_addLine_14 : decode cX2_addLine 14 = .ok (.iload_n 2, 1) := by decide +kernel
theorem dX2_addLine_15 : decode cX2_addLine 15 = .ok (.iconst 0, 1) := by decide +kernel
theorem dX2_addLine_16 : decode cX2_addLine 16 = .ok (.iconst 3, 1) := by decide +kernel
theorem dX2_addLine_17 : decode cX2_addLine 17 = .ok (.invokestatic 44, 3) := by decide +kernel
theorem dX2_addLine_20 : decode cX2_addLine 20 = .ok (.ifCond .eq 13, 3) := by decide +kernel
theorem dX2_addLine_23 : decode cX2_addLine 23 = .ok (.iload_n 3, 1) := by decide +kernel
theorem dX2_addLine_24 : decode cX2_addLine 24 = .ok (.iconst 1, 1) := by decide +kernel
theorem dX2_addLine_25 : decode cX2_addLine 25 = .ok (.bipush 99, 2) := by decide +kernel
theorem dX2_addLine_27 : decode cX2_addLine 27 = .ok (.invokestatic 44, 3) := by decide +kernel
theorem dX2_addLine_30 : decode cX2_addLine 30 = .ok (.ifCond .ne 9, 3) := by decide +kernel
theorem dX2_addLine_33 : decode cX2_addLine 33 = .ok (.aload_n 0, 1) := by decide +kernel
theorem dX2_addLine_34 : decode cX2_addLine 34 = .ok (.iconst 2, 1) := by decide +kernel
theorem dX2_addLine_35 : decode cX2_addLine 35 = .ok (.invokevirtual 56, 3) := by decide +kernel
theorem dX2_addLine_38 : decode cX2_addLine 38 = .ok (.ireturn, 1) := by decide +kernel
theorem dX2_addLine_39 : decode cX2_addLine 39 = .ok (.aload_n 0, 1) := by decide +kernel
theorem dX2_addLine_40 : decode cX2_addLine 40 = .ok (.getfield 22, 3) := by decide +kernel
theorem dX2_addLine_43 : decode cX2_addLine 43 = .ok (.iload_n 1, 1) := by decide +kernel
theorem dX2_addLine_44 : decode cX2_addLine 44 = .ok (.iaload, 1) := by decide +kernel
theorem dX2_addLine_45 : decode cX2_addLine 45 = .ok (.bipush 8, 2) := by decide +kernel
theorem dX2_addLine_47 : decode cX2_addLine 47 = .ok (.if_icmp .ne 9, 3) := by decide +kernel
theorem dX2_addLine_50 : decode cX2_addLine 50 = .ok (.aload_n 0, 1) := by decide +kernel
theorem dX2_addLine_51 : decode cX2_addLine 51 = .ok (.iconst 3, 1) := by decide +kernel
theorem dX2_addLine_52 : decode cX2_addLine 52 = .ok (.invokevirtual 56, 3) := by decide +kernel
theorem dX2_addLine_55 : decode cX2_addLine 55 = .ok (.ireturn, 1) := by decide +kernel
theorem dX2_addLine_56 : decode cX2_addLine 56 = .ok (.aload_n 0, 1) := by decide +kernel
theorem dX2_addLine_57 : decode cX2_addLine 57 = .ok (.getfield 25, 3) := by decide +kernel
theorem dX2_addLine_60 : decode cX2_addLine 60 = .ok (.bipush 8, 2) := by decide +kernel
theorem dX2_addLine_62 : decode cX2_addLine 62 = .ok (.iload_n 1, 1) := by decide +kernel
theorem dX2_addLine_63 : decode cX2_addLine 63 = .ok (.imul, 1) := by decide +kernel
theorem dX2_addLine_64 : decode cX2_addLine 64 = .ok (.aload_n 0, 1) := by decide +kernel
theorem dX2_addLine_65 : decode cX2_addLine 65 = .ok (.getfield 22, 3) := by decide +kernel
theorem dX2_addLine_68 : decode cX2_addLine 68 = .ok (.iload_n 1, 1) := by decide +kernel
theorem dX2_addLine_69 : decode cX2_addLine 69 = .ok (.iaload, 1) := by decide +kernel
theorem dX2_addLine_70 : decode cX2_addLine 70 = .ok (.iadd, 1) := by decide +kernel
theorem dX2_addLine_71 : decode cX2_addLine 71 = .ok (.iload_n 2, 1) := by decide +kernel
theorem dX2_addLine_72 : decode cX2_addLine 72 = .ok (.iastore, 1) := by decide +kernel
theorem dX2_addLine_73 : decode cX2_addLine 73 = .ok (.aload_n 0, 1) := by decide +kernel
theorem dX2_addLine_74 : decode cX2_addLine 74 = .ok (.getfield 28, 3) := by decide +kernel
theorem dX2_addLine_77 : decode cX2_addLine 77 = .ok (.bipush 8, 2) := by decide +kernel
theorem dX2_addLine_79 : decode cX2_addLine 79 = .ok (.iload_n 1, 1) := by decide +kernel
theorem dX2_addLine_80 : decode cX2_addLine 80 = .ok (.imul, 1) := by decide +kernel
theorem dX2_addLine_81 : decode cX2_addLine 81 = .ok (.aload_n 0, 1) := by decide +kernel
theorem dX2_addLine_82 : decode cX2_addLine 82 = .ok (.getfield 22, 3) := by decide +kernel
theorem dX2_addLine_85 : decode cX2_addLine 85 = .ok (.iload_n 1, 1) := by decide +kernel
theorem dX2_addLine_86 : decode cX2_addLine 86 = .ok (.iaload, 1) := by decide +kernel
theorem dX2_addLine_87 : decode cX2_addLine 87 = .ok (.iadd, 1) := by decide +kernel
theorem dX2_addLine_88 : decode cX2_addLine 88 = .ok (.iload_n 3, 1) := by decide +kernel
theorem dX2_addLine_89 : decode cX2_addLine 89 = .ok (.iastore, 1) := by decide +kernel
theorem dX2_addLine_90 : decode cX2_addLine 90 = .ok (.aload_n 0, 1) := by decide +kernel
theorem dX2_addLine_91 : decode cX2_addLine 91 = .ok (.getfield 22, 3) := by decide +kernel
theorem dX2_addLine_94 : decode cX2_addLine 94 = .ok (.iload_n 1, 1) := by decide +kernel
theorem dX2_addLine_95 : decode cX2_addLine 95 = .ok (.dup2, 1) := by decide +kernel
theorem dX2_addLine_96 : decode cX2_addLine 96 = .ok (.iaload, 1) := by decide +kernel
theorem dX2_addLine_97 : decode cX2_addLine 97 = .ok (.iconst 1, 1) := by decide +kernel
theorem dX2_addLine_98 : decode cX2_addLine 98 = .ok (.iadd, 1) := by decide +kernel
theorem dX2_addLine_99 : decode cX2_addLine 99 = .ok (.iastore, 1) := by decide +kernel
theorem dX2_addLine_100 : decode cX2_addLine 100 = .ok (.aload_n 0, 1) := by decide +kernel
theorem dX2_addLine_101 : decode cX2_addLine 101 = .ok (.aload_n 0, 1) := by decide +kernel
theorem dX2_addLine_102 : decode cX2_addLine 102 = .ok (.getfield 22, 3) := by decide +kernel
theorem dX2_addLine_105 : decode cX2_addLine 105 = .ok (.iload_n 1, 1) := by decide +kernel
theorem dX2_addLine_106 : decode cX2_addLine 106 = .ok (.iaload, 1) := by decide +kernel
theorem dX2_addLine_107 : decode cX2_addLine 107 = .ok (.invokevirtual 59, 3) := by decide +kernel
theorem dX2_addLine_110 : decode cX2_addLine 110 = .ok (.ireturn, 1) := by decide +kernel
set_option maxRecDepth 20000 in
theorem ggX2_removeLine_X2_isMail : GoodIn wsX2_removeLine wsX2_isMail := goodIn_r _ [6, 7, 8, 9, 5, 10, 20, 21, 22, 23, 24, 25, 26, 27, 28, 29, 30] rfl (by decide +kernel)
set_option maxRecDepth 20000 in
theorem gX2_removeLine_X2_isMail : GoodIn wsX2_removeLine (wsV RX2 48 RX2 yX2_isMail wsX2_isMail) := goodIn_app (goodIn_of _ (by decide +kernel)) ggX2_removeLine_X2_isMail
set_option maxRecDepth 20000 in
theorem ggX2_removeLine_X2_fails : GoodIn wsX2_removeLine wsX2_fails := goodIn_r _ [14, 15, 20, 21, 22, 23, 24, 25, 26, 27, 28, 29, 30] rfl (by decide +kernel)
set_option maxRecDepth 20000 in
theorem gX2_removeLine_X2_fails : GoodIn wsX2_removeLine (wsV RX2 56 RX2 yX2_fails wsX2_fails) := goodIn_app (goodIn_of _ (by decide +kernel)) ggX2_removeLine_X2_fails
set_option maxRecDepth 20000 in
theorem ggX2_removeLine_X2_tells : GoodIn wsX2_removeLine wsX2_tells := goodIn_r _ [19, 15, 20, 21, 22, 23, 24, 25, 26, 27, 28, 29, 30] rfl (by decide +kernel)
set_option maxRecDepth 20000 in
theorem gX2_removeLine_X2_tells : GoodIn wsX2_removeLine (wsV RX2 59 RX2 yX2_tells wsX2_tells) := goodIn_app (goodIn_of _ (by decide +kernel)) ggX2_removeLine_X2_tells
theorem dX2_removeLine_0 : decode cX2_removeLine 0 = .ok (.aload_n 0, 1) := by decide +kernel
theorem dX2_removeLine_1 : decode cX2_removeLine 1 = .ok (.iload_n 1, 1) := by decide +kernel
theorem dX2_removeLine_2 : decode cX2_removeLine 2 = .ok (.invokevirtual 48, 3) := by decide +kernel
theorem dX2_removeLine_5 : decode cX2_removeLine 5 = .ok (.ifCond .ne 9, 3) := by decide +kernel
theorem dX2_removeLine_8 : decode cX2_removeLine 8 = .ok (.aload_n 0, 1) := by decide +kernel
theorem dX2_removeLine_9 : decode cX2_removeLine 9 = .ok (.iconst 1, 1) := by decide +kernel
theorem dX2_removeLine_10 : decode cX2_removeLine 10 = .ok (.invokevirtual 56, 3) := by decide +kernel
theorem dX2_removeLine_13 : decode cX2_removeLine 13 = .ok (.ireturn, 1) := by decide +kernel
theorem dX2_removeLine_14 : decode cX2_removeLine 14 = .ok (.aload_n 0, 1) := by decide +kernel
theorem dX2_removeLine_15 : decode cX2_removeLine 15 = .ok (.getfield 22, 3) := by decide +kernel
theorem dX2_removeLine_18 : decode cX2_removeLine 18 = .ok (.iload_n 1, 1) := by decide +kernel
theorem dX2_removeLine_19 : decode cX2_removeLine 19 = .ok (.iaload, 1) := by decide +kernel
theorem dX2_removeLine_20 : decode cX2_removeLine 20 = .ok (.ifCond .ne 9, 3) := by decide +kernel
theorem dX2_removeLine_23 : decode cX2_removeLine 23 = .ok (.aload_n 0, 1) := by decide +kernel
theorem dX2_removeLine_24 : decode cX2_removeLine 24 = .ok (.iconst 2, 1) := by decide +kernel
theorem dX2_removeLine_25 : decode cX2_removeLine 25 = .ok (.invokevirtual 56, 3) := by decide +kernel
theorem dX2_removeLine_28 : decode cX2_removeLine 28 = .ok (.ireturn, 1) := by decide +kernel
theorem dX2_removeLine_29 : decode cX2_removeLine 29 = .ok (.aload_n 0, 1) := by decide +kernel
theorem dX2_removeLine_30 : decode cX2_removeLine 30 = .ok (.getfield 22, 3) := by decide +kernel
theorem dX2_removeLine_33 : decode cX2_removeLine 33 = .ok (.iload_n 1, 1) := by decide +kernel
theorem dX2_removeLine_34 : decode cX2_removeLine 34 = .ok (.dup2, 1) := by decide +kernel
theorem dX2_removeLine_35 : decode cX2_removeLine 35 = .ok (.iaload, 1) := by decide +kernel
theorem dX2_removeLine_36 : decode cX2_removeLine 36 = .ok (.iconst 1, 1) := by decide +kernel
theorem dX2_removeLine_37 : decode cX2_removeLine 37 = .ok (.isub, 1) := by decide +kernel
theorem dX2_removeLine_38 : decode cX2_removeLine 38 = .ok (.iastore, 1) := by decide +kernel
theorem dX2_removeLine_39 : decode cX2_removeLine 39 = .ok (.aload_n 0, 1) := by decide +kernel
theorem dX2_removeLine_40 : decode cX2_removeLine 40 = .ok (.aload_n 0, 1) := by decide +kernel
theorem dX2_removeLine_41 : decode cX2_removeLine 41 = .ok (.getfield 22, 3) := by decide +kernel
theorem dX2_removeLine_44 : decode cX2_removeLine 44 = .ok (.iload_n 1, 1) := by decide +kernel
theorem dX2_removeLine_45 : decode cX2_removeLine 45 = .ok (.iaload, 1) := by decide +kernel
theorem dX2_removeLine_46 : decode cX2_removeLine 46 = .ok (.invokevirtual 59, 3) := by decide +kernel
theorem dX2_removeLine_49 : decode cX2_removeLine 49 = .ok (.ireturn, 1) := by decide +kernel
set_option maxRecDepth 20000 in
theorem ggX2_mails_X2_tells : GoodIn wsX2_mails wsX2_tells := goodIn_r _ [6, 7, 8, 9, 10, 11, 12, 13, 14, 15, 16, 17, 18] rfl (by decide +kernel)
set_option maxRecDepth 20000 in
theorem gX2_mails_X2_tells : GoodIn wsX2_mails (wsV RX2 59 RX2 yX2_tells wsX2_tells) := goodIn_app (goodIn_of _ (by decide +kernel)) ggX2_mails_X2_tells
theorem dX2_mails_0 : decode cX2_mails 0 = .ok (.aload_n 0, 1) := by decide +kernel
theorem dX2_mails_1 : decode cX2_mails 1 = .ok (.aload_n 0, 1) := by decide +kernel
theorem dX2_mails_2 : decode cX2_mails 2 = .ok (.getfield 41, 3) := by decide +kernel
theorem dX2_mails_5 : decode cX2_mails 5 = .ok (.invokevirtual 59, 3) := by decide +kernel
theorem dX2_mails_8 : decode cX2_mails 8 = .ok (.ireturn, 1) := by decide +kernel
set_option maxRecDepth 20000 in
theorem ggX2_lines_X2_isMail : GoodIn wsX2_lines wsX2_isMail := goodIn_r _ [6, 7, 8, 9, 5, 10, 20, 21, 22, 23, 24, 25, 26, 27, 28, 29, 30] rfl (by decide +kernel)
set_option maxRecDepth 20000 in
theorem gX2_lines_X2_isMail : GoodIn wsX2_lines (wsV RX2 48 RX2 yX2_isMail wsX2_isMail) := goodIn_app (goodIn_of _ (by decide +kernel)) ggX2_lines_X2_isMail
set_option maxRecDepth 20000 in
theorem ggX2_lines_X2_tells : GoodIn wsX2_lines wsX2_tells := goodIn_r _ [14, 15, 20, 21, 22, 23, 24, 25, 26, 27, 28, 29, 30] rfl (by decide +kernel)
set_option maxRecDepth 20000 in
theorem gX2_lines_X2_tells : GoodIn wsX2_lines (wsV RX2 59 RX2 yX2_tells wsX2_tells) := goodIn_app (goodIn_of _ (by decide +kernel)) ggX2_lines_X2_tells
set_option maxRecDepth 20000 in
theorem ggX2_lines_X2_fails : GoodIn wsX2_lines wsX2_fails := goodIn_r _ [19, 15, 20, 21, 22, 23, 24, 25, 26, 27, 28, 29, 30] rfl (by decide +kernel)
set_option maxRecDepth 20000 in
theorem gX2_lines_X2_fails : GoodIn wsX2_lines (wsV RX2 56 RX2 yX2_fails wsX2_fails) := goodIn_app (goodIn_of _ (by decide +kernel)) ggX2_lines_X2_fails
theorem dX2_lines_0 : decode cX2_lines 0 = .ok (.aload_n 0, 1) := by decide +kernel
theorem dX2_lines_1 : decode cX2_lines 1 = .ok (.iload_n 1, 1) := by decide +kernel
theorem dX2_lines_2 : decode cX2_lines 2 = .ok (.invokevirtual 48, 3) := by decide +kernel
theorem dX2_lines_5 : decode cX2_lines 5 = .ok (.ifCond .eq 16, 3) := by decide +kernel
theorem dX2_lines_8 : decode cX2_lines 8 = .ok (.aload_n 0, 1) := by decide +kernel
theorem dX2_lines_9 : decode cX2_lines 9 = .ok (.aload_n 0, 1) := by decide +kernel
theorem dX2_lines_10 : decode cX2_lines 10 = .ok (.getfield 22, 3) := by decide +kernel
theorem dX2_lines_13 : decode cX2_lines 13 = .ok (.iload_n 1, 1) := by decide +kernel
theorem dX2_lines_14 : decode cX2_lines 14 = .ok (.iaload, 1) := by decide +kernel
theorem dX2_lines_15 : decode cX2_lines 15 = .ok (.invokevirtual 59, 3) := by decide +kernel
theorem dX2_lines_18 : decode cX2_lines 18 = .ok (.goto 8, 3) := by decide +kernel
theorem dX2_lines_21 : decode cX2_lines 21 = .ok (.aload_n 0, 1) := by decide +kernel
theorem dX2_lines_22 : decode cX2_lines 22 = .ok (.iconst 1, 1) := by decide +kernel
theorem dX2_lines_23 : decode cX2_lines 23 = .ok (.invokevirtual 56, 3) := by decide +kernel
theorem dX2_lines_26 : decode cX2_lines 26 = .ok (.ireturn, 1) := by decide +kernel
set_option maxRecDepth 20000 in
theorem ggX2_word_X2_isLine : GoodIn wsX2_word wsX2_isLine := goodIn_ca (goodIn_r _ [6, 7, 8, 9, 10, 5, 11, 12, 13, 14, 15, 25, 26, 27, 28, 29, 30, 31, 32, 33, 34, 35] rfl (by decide +kernel)) (goodIn_sub (fun _ h => List.mem_cons_of_mem _ (List.mem_append_right _ h)) (by decide +kernel))
set_option maxRecDepth 20000 in
theorem gX2_word_X2_isLine : GoodIn wsX2_word (wsV RX2 62 RX2 yX2_isLine wsX2_isLine) := goodIn_app (goodIn_of _ (by decide +kernel)) ggX2_word_X2_isLine
set_option maxRecDepth 20000 in
theorem ggX2_word_X2_tells : GoodIn wsX2_word wsX2_tells := goodIn_r _ [19, 20, 25, 26, 27, 28, 29, 30, 31, 32, 33, 34, 35] rfl (by decide +kernel)
set_option maxRecDepth 20000 in
theorem gX2_word_X2_tells : GoodIn wsX2_word (wsV RX2 59 RX2 yX2_tells wsX2_tells) := goodIn_app (goodIn_of _ (by decide +kernel)) ggX2_word_X2_tells
set_option maxRecDepth 20000 in
theorem ggX2_word_X2_fails : GoodIn wsX2_word wsX2_fails := goodIn_r _ [24, 20, 25, 26, 27, 28, 29, 30, 31, 32, 33, 34, 35] rfl (by decide +kernel)
set_option maxRecDepth 20000 in
theorem gX2_word_X2_fails : GoodIn wsX2_word (wsV RX2 56 RX2 yX2_fails wsX2_fails) := goodIn_app (goodIn_of _ (by decide +kernel)) ggX2_word_X2_fails
theorem dX2_word_0 : decode cX2_word 0 = .ok (.aload_n 0, 1) := by decide +kernel
theorem dX2_word_1 : decode cX2_word 1 = .ok (.iload_n 1, 1) := by decide +kernel
theorem dX2_word_2 : decode cX2_word 2 = .ok (.iload_n 2, 1) := by decide +kernel
theorem dX2_word_3 : decode cX2_word 3 = .ok (.invokevirtual 62, 3) := by decide +kernel
theorem dX2_word_6 : decode cX2_word 6 = .ok (.ifCond .eq 21, 3) := by decide +kernel
theorem dX2_word_9 : decode cX2_word 9 = .ok (.aload_n 0, 1) := by decide +kernel
theorem dX2_word_10 : decode cX2_word 10 = .ok (.aload_n 0, 1) := by decide +kernel
theorem dX2_word_11 : decode cX2_word 11 = .ok (.getfield 28, 3) := by decide +kernel
theorem dX2_word_14 : decode cX2_word 14 = .ok (.bipush 8, 2) := by decide +kernel
theorem dX2_word_16 : decode cX2_word 16 = .ok (.iload_n 1, 1) := by decide +kernel
theorem dX2_word_17 : decode cX2_word 17 = .ok (.imul, 1) := by decide +kernel
theorem dX2_word_18 : decode cX2_word 18 = .ok (.iload_n 2, 1) := by decide +kernel
theorem dX2_word_19 : decode cX2_word 19 = .ok (.iadd, 1) := by decide +kernel
theorem dX2_word_20 : decode cX2_word 20 = .ok (.iaload, 1) := by decide +kernel
theorem dX2_word_21 : decode cX2_word 21 = .ok (.invokevirtual 59, 3) := by decide +kernel
theorem dX2_word_24 : decode cX2_word 24 = .ok (.goto 8, 3) := by decide +kernel
theorem dX2_word_27 : decode cX2_word 27 = .ok (.aload_n 0, 1) := by decide +kernel
theorem dX2_word_28 : decode cX2_word 28 = .ok (.iconst 1, 1) := by decide +kernel
theorem dX2_word_29 : decode cX2_word 29 = .ok (.invokevirtual 56, 3) := by decide +kernel
theorem dX2_word_32 : decode cX2_word 32 = .ok (.ireturn, 1) := by decide +kernel
set_option maxRecDepth 20000 in
theorem ggX2_parentOf_X2_dated : GoodIn wsX2_parentOf wsX2_dated := goodIn_ca (goodIn_r _ [6, 7, 8, 9, 10, 11, 12, 13, 14, 15, 16, 17, 18, 19] rfl (by decide +kernel)) (goodIn_sub (fun _ h => List.mem_cons_of_mem _ (List.mem_append_right _ h)) (by decide +kernel))
set_option maxRecDepth 20000 in
theorem gX2_parentOf_X2_dated : GoodIn wsX2_parentOf (wsV RX2 52 RX2 yX2_dated wsX2_dated) := goodIn_app (goodIn_of _ (by decide +kernel)) ggX2_parentOf_X2_dated
theorem dX2_parentOf_0 : decode cX2_parentOf 0 = .ok (.aload_n 0, 1) := by decide +kernel
theorem dX2_parentOf_1 : decode cX2_parentOf 1 = .ok (.getfield 19, 3) := by decide +kernel
theorem dX2_parentOf_4 : decode cX2_parentOf 4 = .ok (.iload_n 1, 1) := by decide +kernel
theorem dX2_parentOf_5 : decode cX2_parentOf 5 = .ok (.iaload, 1) := by decide +kernel
theorem dX2_parentOf_6 : decode cX2_parentOf 6 = .ok (.ifCond .ne 7, 3) := by decide +kernel
theorem dX2_parentOf_9 : decode cX2_parentOf 9 = .ok (.iconst (-1), 1) := by decide +kernel
theorem dX2_parentOf_10 : decode cX2_parentOf 10 = .ok (.goto 13, 3) := by decide +kernel
theorem dX2_parentOf_13 : decode cX2_parentOf 13 = .ok (.aload_n 0, 1) := by decide +kernel
theorem dX2_parentOf_14 : decode cX2_parentOf 14 = .ok (.aload_n 0, 1) := by decide +kernel
theorem dX2_parentOf_15 : decode cX2_parentOf 15 = .ok (.getfield 19, 3) := by decide +kernel
theorem dX2_parentOf_18 : decode cX2_parentOf 18 = .ok (.iload_n 1, 1) := by decide +kernel
theorem dX2_parentOf_19 : decode cX2_parentOf 19 = .ok (.iaload, 1) := by decide +kernel
theorem dX2_parentOf_20 : decode cX2_parentOf 20 = .ok (.invokevirtual 52, 3) := by decide +kernel
theorem dX2_parentOf_23 : decode cX2_parentOf 23 = .ok (.ireturn, 1) := by decide +kernel
set_option maxRecDepth 20000 in
theorem ggX2_parent_X2_isMail : GoodIn wsX2_parent wsX2_isMail := goodIn_r _ [5, 6, 7, 8, 4, 9, 29, 30, 31, 32, 33, 34, 35, 36, 37, 38, 39] rfl (by decide +kernel)
set_option maxRecDepth 20000 in
theorem gX2_parent_X2_isMail : GoodIn wsX2_parent (wsV RX2 48 RX2 yX2_isMail wsX2_isMail) := goodIn_app (goodIn_of _ (by decide +kernel)) ggX2_parent_X2_isMail
set_option maxRecDepth 20000 in
theorem ggX2_parent_X2_fails : GoodIn wsX2_parent wsX2_fails := goodIn_r _ [13, 14, 29, 30, 31, 32, 33, 34, 35, 36, 37, 38, 39] rfl (by decide +kernel)
set_option maxRecDepth 20000 in
theorem gX2_parent_X2_fails : GoodIn wsX2_parent (wsV RX2 56 RX2 yX2_fails wsX2_fails) := goodIn_app (goodIn_of _ (by decide +kernel)) ggX2_parent_X2_fails
set_option maxRecDepth 20000 in
theorem ggX2_parent_X2_parentOf : GoodIn wsX2_parent wsX2_parentOf := goodIn_ca (goodIn_r _ [18, 19, 20, 21, 22, 4, 23, 6, 24, 29, 30, 31, 32, 33, 34, 35, 36, 37, 38, 39] rfl (by decide +kernel)) (goodIn_sub (fun _ h => List.mem_cons_of_mem _ (List.mem_append_right _ h)) (by decide +kernel))
set_option maxRecDepth 20000 in
theorem gX2_parent_X2_parentOf : GoodIn wsX2_parent (wsV RX2 66 RX2 yX2_parentOf wsX2_parentOf) := goodIn_app (goodIn_of _ (by decide +kernel)) ggX2_parent_X2_parentOf
set_option maxRecDepth 20000 in
theorem ggX2_parent_X2_tells : GoodIn wsX2_parent wsX2_tells := goodIn_r _ [28, 14, 29, 30, 31, 32, 33, 34, 35, 36, 37, 38, 39] rfl (by decide +kernel)
set_option maxRecDepth 20000 in
theorem gX2_parent_X2_tells : GoodIn wsX2_parent (wsV RX2 59 RX2 yX2_tells wsX2_tells) := goodIn_app (goodIn_of _ (by decide +kernel)) ggX2_parent_X2_tells
theorem dX2_parent_0 : decode cX2_parent 0 = .ok (.aload_n 0, 1) := by decide +kernel
theorem dX2_parent_1 : decode cX2_parent 1 = .ok (.iload_n 1, 1) := by decide +kernel
theorem dX2_parent_2 : decode cX2_parent 2 = .ok (.invokevirtual 48, 3) := by decide +kernel
theorem dX2_parent_5 : decode cX2_parent 5 = .ok (.ifCond .ne 9, 3) := by decide +kernel
theorem dX2_parent_8 : decode cX2_parent 8 = .ok (.aload_n 0, 1) := by decide +kernel
theorem dX2_parent_9 : decode cX2_parent 9 = .ok (.iconst 1, 1) := by decide +kernel
theorem dX2_parent_10 : decode cX2_parent 10 = .ok (.invokevirtual 56, 3) := by decide +kernel
theorem dX2_parent_13 : decode cX2_parent 13 = .ok (.ireturn, 1) := by decide +kernel
theorem dX2_parent_14 : decode cX2_parent 14 = .ok (.aload_n 0, 1) := by decide +kernel
theorem dX2_parent_15 : decode cX2_parent 15 = .ok (.iload_n 1, 1) := by decide +kernel
theorem dX2_parent_16 : decode cX2_parent 16 = .ok (.invokevirtual 66, 3) := by decide +kernel
theorem dX2_parent_19 : decode cX2_parent 19 = .ok (.iconst (-1), 1) := by decide +kernel
theorem dX2_parent_20 : decode cX2_parent 20 = .ok (.if_icmp .ne 11, 3) := by decide +kernel
theorem dX2_parent_23 : decode cX2_parent 23 = .ok (.aload_n 0, 1) := by decide +kernel
theorem dX2_parent_24 : decode cX2_parent 24 = .ok (.iconst 2, 1) := by decide +kernel
theorem dX2_parent_25 : decode cX2_parent 25 = .ok (.invokevirtual 56, 3) := by decide +kernel
theorem dX2_parent_28 : decode cX2_parent 28 = .ok (.goto 12, 3) := by decide +kernel
theorem dX2_parent_31 : decode cX2_parent 31 = .ok (.aload_n 0, 1) := by decide +kernel
theorem dX2_parent_32 : decode cX2_parent 32 = .ok (.aload_n 0, 1) := by decide +kernel
theorem dX2_parent_33 : decode cX2_parent 33 = .ok (.iload_n 1, 1) := by decide +kernel
theorem dX2_parent_34 : decode cX2_parent 34 = .ok (.invokevirtual 66, 3) := by decide +kernel
theorem dX2_parent_37 : decode cX2_parent 37 = .ok (.invokevirtual 59, 3) := by decide +kernel
theorem dX2_parent_40 : decode cX2_parent 40 = .ok (.ireturn, 1) := by decide +kernel
set_option maxRecDepth 20000 in
theorem ggX2_missing_X2_dated : GoodIn wsX2_missing wsX2_dated := goodIn_ca (goodIn_r _ [7, 1, 8, 14, 15, 16, 17, 18, 19, 20, 21, 22, 23, 24] rfl (by decide +kernel)) (goodIn_sub (fun _ h => List.mem_cons_of_mem _ (List.mem_append_right _ h)) (by decide +kernel))
set_option maxRecDepth 20000 in
theorem gX2_missing_X2_dated : GoodIn wsX2_missing (wsV RX2 52 RX2 yX2_dated wsX2_dated) := goodIn_app (goodIn_of _ (by decide +kernel)) ggX2_missing_X2_dated
set_option maxRecDepth 20000 in
theorem ggX2_missing_X2_tells : GoodIn wsX2_missing wsX2_tells := goodIn_r _ [12, 13, 14, 15, 16, 17, 18, 19, 20, 21, 22, 23, 24] rfl (by decide +kernel)
set_option maxRecDepth 20000 in
theorem gX2_missing_X2_tells : GoodIn wsX2_missing (wsV RX2 59 RX2 yX2_tells wsX2_tells) := goodIn_app (goodIn_of _ (by decide +kernel)) ggX2_missing_X2_tells
theorem dX2_missing_0 : decode cX2_missing 0 = .ok (.iconst 0, 1) := by decide +kernel
theorem dX2_missing_1 : decode cX2_missing 1 = .ok (.istore_n 1, 1) := by decide +kernel
theorem dX2_missing_2 : decode cX2_missing 2 = .ok (.iconst 1, 1) := by decide +kernel
theorem dX2_missing_3 : decode cX2_missing 3 = .ok (.istore_n 2, 1) := by decide +kernel
theorem dX2_missing_4 : decode cX2_missing 4 = .ok (.iload_n 2, 1) := by decide +kernel
theorem dX2_missing_5 : decode cX2_missing 5 = .ok (.bipush 99, 2) := by decide +kernel
theorem dX2_missing_7 : decode cX2_missing 7 = .ok (.if_icmp .ge 71, 3) := by decide +kernel
theorem dX2_missing_10 : decode cX2_missing 10 = .ok (.iconst 0, 1) := by decide +kernel
theorem dX2_missing_11 : decode cX2_missing 11 = .ok (.istore_n 3, 1) := by decide +kernel
theorem dX2_missing_12 : decode cX2_missing 12 = .ok (.iconst 0, 1) := by decide +kernel
theorem dX2_missing_13 : decode cX2_missing 13 = .ok (.istore 4, 2) := by decide +kernel
theorem dX2_missing_15 : decode cX2_missing 15 = .ok (.iload 4, 2) := by decide +kernel
theorem dX2_missing_17 : decode cX2_missing 17 = .ok (.aload_n 0, 1) := by decide +kernel
theorem dX2_missing_18 : decode cX2_missing 18 = .ok (.getfield 41, 3) := by decide +kernel
theorem dX2_missing_21 : decode cX2_missing 21 = .ok (.if_icmp .ge 30, 3) := by decide +kernel
theorem dX2_missing_24 : decode cX2_missing 24 = .ok (.iload_n 3, 1) := by decide +kernel
theorem dX2_missing_25 : decode cX2_missing 25 = .ok (.ifCond .ne 14, 3) := by decide +kernel
theorem dX2_missing_28 : decode cX2_missing 28 = .ok (.aload_n 0, 1) := by decide +kernel
theorem dX2_missing_29 : decode cX2_missing 29 = .ok (.getfield 19, 3) := by decide +kernel
theorem dX2_missing_32 : decode cX2_missing 32 = .ok (.iload 4, 2) := by decide +kernel
theorem dX2_missing_34 : decode cX2_missing 34 = .ok (.iaload, 1) := by decide +kernel
theorem dX2_missing_35 : decode cX2_missing 35 = .ok (.iload_n 2, 1) := by decide +kernel
theorem dX2_missing_36 : decode cX2_missing 36 = .ok (.if_icmp .ne 7, 3) := by decide +kernel
theorem dX2_missing_39 : decode cX2_missing 39 = .ok (.iconst 1, 1) := by decide +kernel
theorem dX2_missing_40 : decode cX2_missing 40 = .ok (.goto 4, 3) := by decide +kernel
theorem dX2_missing_43 : decode cX2_missing 43 = .ok (.iconst 0, 1) := by decide +kernel
theorem dX2_missing_44 : decode cX2_missing 44 = .ok (.istore_n 3, 1) := by decide +kernel
theorem dX2_missing_45 : decode cX2_missing 45 = .ok (.iinc 4 1, 3) := by decide +kernel
theorem dX2_missing_48 : decode cX2_missing 48 = .ok (.goto (-33), 3) := by decide +kernel
theorem dX2_missing_51 : decode cX2_missing 51 = .ok (.iload_n 1, 1) := by decide +kernel
theorem dX2_missing_52 : decode cX2_missing 52 = .ok (.iload_n 3, 1) := by decide +kernel
theorem dX2_missing_53 : decode cX2_missing 53 = .ok (.ifCond .eq 16, 3) := by decide +kernel
theorem dX2_missing_56 : decode cX2_missing 56 = .ok (.aload_n 0, 1) := by decide +kernel
theorem dX2_missing_57 : decode cX2_missing 57 = .ok (.iload_n 2, 1) := by decide +kernel
theorem dX2_missing_58 : decode cX2_missing 58 = .ok (.invokevirtual 52, 3) := by decide +kernel
theorem dX2_missing_61 : decode cX2_missing 61 = .ok (.iconst (-1), 1) := by decide +kernel
theorem dX2_missing_62 : decode cX2_missing 62 = .ok (.if_icmp .ne 7, 3) := by decide +kernel
theorem dX2_missing_65 : decode cX2_missing 65 = .ok (.iconst 1, 1) := by decide +kernel
theorem dX2_missing_66 : decode cX2_missing 66 = .ok (.goto 4, 3) := by decide +kernel
theorem dX2_missing_69 : decode cX2_missing 69 = .ok (.iconst 0, 1) := by decide +kernel
theorem dX2_missing_70 : decode cX2_missing 70 = .ok (.iadd, 1) := by decide +kernel
theorem dX2_missing_71 : decode cX2_missing 71 = .ok (.istore_n 1, 1) := by decide +kernel
theorem dX2_missing_72 : decode cX2_missing 72 = .ok (.iinc 2 1, 3) := by decide +kernel
theorem dX2_missing_75 : decode cX2_missing 75 = .ok (.goto (-71), 3) := by decide +kernel
theorem dX2_missing_78 : decode cX2_missing 78 = .ok (.aload_n 0, 1) := by decide +kernel
theorem dX2_missing_79 : decode cX2_missing 79 = .ok (.iload_n 1, 1) := by decide +kernel
theorem dX2_missing_80 : decode cX2_missing 80 = .ok (.invokevirtual 59, 3) := by decide +kernel
theorem dX2_missing_83 : decode cX2_missing 83 = .ok (.ireturn, 1) := by decide +kernel
theorem dX2_fits_0 : decode cX2_fits 0 = .ok (.aload_n 0, 1) := by decide +kernel
theorem dX2_fits_1 : decode cX2_fits 1 = .ok (.getfield 25, 3) := by decide +kernel
theorem dX2_fits_4 : decode cX2_fits 4 = .ok (.iload_n 1, 1) := by decide +kernel
theorem dX2_fits_5 : decode cX2_fits 5 = .ok (.iaload, 1) := by decide +kernel
theorem dX2_fits_6 : decode cX2_fits 6 = .ok (.ifCond .le 39, 3) := by decide +kernel
theorem dX2_fits_9 : decode cX2_fits 9 = .ok (.aload_n 0, 1) := by decide +kernel
theorem dX2_fits_10 : decode cX2_fits 10 = .ok (.getfield 28, 3) := by decide +kernel
theorem dX2_fits_13 : decode cX2_fits 13 = .ok (.iload_n 1, 1) := by decide +kernel
theorem dX2_fits_14 : decode cX2_fits 14 = .ok (.iaload, 1) := by decide +kernel
theorem dX2_fits_15 : decode cX2_fits 15 = .ok (.aload_n 0, 1) := by decide +kernel
theorem dX2_fits_16 : decode cX2_fits 16 = .ok (.getfield 28, 3) := by decide +kernel
theorem dX2_fits_19 : decode cX2_fits 19 = .ok (.iload_n 2, 1) := by decide +kernel
theorem dX2_fits_20 : decode cX2_fits 20 = .ok (.iaload, 1) := by decide +kernel
theorem dX2_fits_21 : decode cX2_fits 21 = .ok (.if_icmp .ne 24, 3) := by decide +kernel
theorem dX2_fits_24 : decode cX2_fits 24 = .ok (.aload_n 0, 1) := by decide +kernel
theorem dX2_fits_25 : decode cX2_fits 25 = .ok (.getfield 25, 3) := by decide +kernel
theorem dX2_fits_28 : decode cX2_fits 28 = .ok (.iload_n 1, 1) := by decide +kernel
theorem dX2_fits_29 : decode cX2_fits 29 = .ok (.iaload, 1) := by decide +kernel
theorem dX2_fits_30 : decode cX2_fits 30 = .ok (.aload_n 0, 1) := by decide +kernel
theorem dX2_fits_31 : decode cX2_fits 31 = .ok (.getfield 25, 3) := by decide +kernel
theorem dX2_fits_34 : decode cX2_fits 34 = .ok (.iload_n 2, 1) := by decide +kernel
theorem dX2_fits_35 : decode cX2_fits 35 = .ok (.iaload, 1) := by decide +kernel
theorem dX2_fits_36 : decode cX2_fits 36 = .ok (.iconst 1, 1) := by decide +kernel
theorem dX2_fits_37 : decode cX2_fits 37 = .ok (.iadd, 1) := by decide +kernel
theorem dX2_fits_38 : decode cX2_fits 38 = .ok (.if_icmp .ne 7, 3) := by decide +kernel
theorem dX2_fits_41 : decode cX2_fits 41 = .ok (.iconst 1, 1) := by decide +kernel
theorem dX2_fits_42 : decode cX2_fits 42 = .ok (.goto 4, 3) := by decide +kernel
theorem dX2_fits_45 : decode cX2_fits 45 = .ok (.iconst 0, 1) := by decide +kernel
theorem dX2_fits_46 : decode cX2_fits 46 = .ok (.ireturn, 1) := by decide +kernel
set_option maxRecDepth 20000 in
theorem ggX2_aligns_X2_parentOf : GoodIn wsX2_aligns wsX2_parentOf := goodIn_ca (goodIn_r _ [8, 9, 10, 11, 12, 7, 13, 14, 15, 22, 23, 24, 25, 26, 27, 28, 29, 30, 31, 32] rfl (by decide +kernel)) (goodIn_sub (fun _ h => List.mem_cons_of_mem _ (List.mem_append_right _ h)) (by decide +kernel))
set_option maxRecDepth 20000 in
theorem gX2_aligns_X2_parentOf : GoodIn wsX2_aligns (wsV RX2 66 RX2 yX2_parentOf wsX2_parentOf) := goodIn_app (goodIn_of _ (by decide +kernel)) ggX2_aligns_X2_parentOf
set_option maxRecDepth 20000 in
theorem ggX2_aligns_X2_fits : GoodIn wsX2_aligns wsX2_fits := goodIn_ca (goodIn_r _ [19, 20, 21, 22, 23, 24, 25, 26, 27, 28, 29, 30, 31, 32] rfl (by decide +kernel)) (goodIn_sub (fun _ h => List.mem_cons_of_mem _ (List.mem_append_right _ h)) (by decide +kernel))
set_option maxRecDepth 20000 in
theorem gX2_aligns_X2_fits : GoodIn wsX2_aligns (wsV RX2 69 RX2 yX2_fits wsX2_fits) := goodIn_app (goodIn_of _ (by decide +kernel)) ggX2_aligns_X2_fits
theorem dX2_aligns_0 : decode cX2_aligns 0 = .ok (.aload_n 0, 1) := by decide +kernel
theorem dX2_aligns_1 : decode cX2_aligns 1 = .ok (.iload_n 1, 1) := by decide +kernel
theorem dX2_aligns_2 : decode cX2_aligns 2 = .ok (.invokevirtual 66, 3) := by decide +kernel
theorem dX2_aligns_5 : decode cX2_aligns 5 = .ok (.istore_n 2, 1) := by decide +kernel
theorem dX2_aligns_6 : decode cX2_aligns 6 = .ok (.aload_n 0, 1) := by decide +kernel
theorem dX2_aligns_7 : decode cX2_aligns 7 = .ok (.getfield 22, 3) := by decide +kernel
theorem dX2_aligns_10 : decode cX2_aligns 10 = .ok (.iload_n 1, 1) := by decide +kernel
theorem dX2_aligns_11 : decode cX2_aligns 11 = .ok (.iaload, 1) := by decide +kernel
theorem dX2_aligns_12 : decode cX2_aligns 12 = .ok (.istore_n 3, 1) := by decide +kernel
theorem dX2_aligns_13 : decode cX2_aligns 13 = .ok (.iload_n 2, 1) := by decide +kernel
theorem dX2_aligns_14 : decode cX2_aligns 14 = .ok (.iconst (-1), 1) := by decide +kernel
theorem dX2_aligns_15 : decode cX2_aligns 15 = .ok (.if_icmp .ne 7, 3) := by decide +kernel
theorem dX2_aligns_18 : decode cX2_aligns 18 = .ok (.iconst 0, 1) := by decide +kernel
theorem dX2_aligns_19 : decode cX2_aligns 19 = .ok (.goto 9, 3) := by decide +kernel
theorem dX2_aligns_22 : decode cX2_aligns 22 = .ok (.aload_n 0, 1) := by decide +kernel
theorem dX2_aligns_23 : decode cX2_aligns 23 = .ok (.getfield 22, 3) := by decide +kernel
theorem dX2_aligns_26 : decode cX2_aligns 26 = .ok (.iload_n 2, 1) := by decide +kernel
theorem dX2_aligns_27 : decode cX2_aligns 27 = .ok (.iaload, 1) := by decide +kernel
theorem dX2_aligns_28 : decode cX2_aligns 28 = .ok (.istore 4, 2) := by decide +kernel
theorem dX2_aligns_30 : decode cX2_aligns 30 = .ok (.iconst 0, 1) := by decide +kernel
theorem dX2_aligns_31 : decode cX2_aligns 31 = .ok (.istore 5, 2) := by decide +kernel
theorem dX2_aligns_33 : decode cX2_aligns 33 = .ok (.iload 5, 2) := by decide +kernel
theorem dX2_aligns_35 : decode cX2_aligns 35 = .ok (.bipush 80, 2) := by decide +kernel
theorem dX2_aligns_37 : decode cX2_aligns 37 = .ok (.if_icmp .gt 17, 3) := by decide +kernel
theorem dX2_aligns_40 : decode cX2_aligns 40 = .ok (.aload_n 0, 1) := by decide +kernel
theorem dX2_aligns_41 : decode cX2_aligns 41 = .ok (.getfield 34, 3) := by decide +kernel
theorem dX2_aligns_44 : decode cX2_aligns 44 = .ok (.iload 5, 2) := by decide +kernel
theorem dX2_aligns_46 : decode cX2_aligns 46 = .ok (.iconst 0, 1) := by decide +kernel
theorem dX2_aligns_47 : decode cX2_aligns 47 = .ok (.iastore, 1) := by decide +kernel
theorem dX2_aligns_48 : decode cX2_aligns 48 = .ok (.iinc 5 1, 3) := by decide +kernel
theorem dX2_aligns_51 : decode cX2_aligns 51 = .ok (.goto (-18), 3) := by decide +kernel
theorem dX2_aligns_54 : decode cX2_aligns 54 = .ok (.iload_n 3, 1) := by decide +kernel
theorem dX2_aligns_55 : decode cX2_aligns 55 = .ok (.iconst 1, 1) := by decide +kernel
theorem dX2_aligns_56 : decode cX2_aligns 56 = .ok (.isub, 1) := by decide +kernel
theorem dX2_aligns_57 : decode cX2_aligns 57 = .ok (.istore 5, 2) := by decide +kernel
theorem dX2_aligns_59 : decode cX2_aligns 59 = .ok (.iload 5, 2) := by decide +kernel
theorem dX2_aligns_61 : decode cX2_aligns 61 = .ok (.ifCond .lt 167, 3) := by decide +kernel
theorem dX2_aligns_64 : decode cX2_aligns 64 = .ok (.iload 4, 2) := by decide +kernel
theorem dX2_aligns_66 : decode cX2_aligns 66 = .ok (.iconst 1, 1) := by decide +kernel
theorem dX2_aligns_67 : decode cX2_aligns 67 = .ok (.isub, 1) := by decide +kernel
theorem dX2_aligns_68 : decode cX2_aligns 68 = .ok (.istore 6, 2) := by decide +kernel
theorem dX2_aligns_70 : decode cX2_aligns 70 = .ok (.iload 6, 2) := by decide +kernel
theorem dX2_aligns_72 : decode cX2_aligns 72 = .ok (.ifCond .lt 150, 3) := by decide +kernel
theorem dX2_aligns_75 : decode cX2_aligns 75 = .ok (.aload_n 0, 1) := by decide +kernel
theorem dX2_aligns_76 : decode cX2_aligns 76 = .ok (.bipush 8, 2) := by decide +kernel
theorem dX2_aligns_78 : decode cX2_aligns 78 = .ok (.iload_n 1, 1) := by decide +kernel
theorem dX2_aligns_79 : decode cX2_aligns 79 = .ok (.imul, 1) := by decide +kernel
theorem dX2_aligns_80 : decode cX2_aligns 80 = .ok (.iload 5, 2) := by decide +kernel
theorem dX2_aligns_82 : decode cX2_aligns 82 = .ok (.iadd, 1) := by decide +kernel
theorem dX2_aligns_83 : decode cX2_aligns 83 = .ok (.bipush 8, 2) := by decide +kernel
theorem dX2_aligns_85 : decode cX2_aligns 85 = .ok (.iload_n 2, 1) := by decide +kernel
theorem dX2_aligns_86 : decode cX2_aligns 86 = .ok (.imul, 1) := by decide +kernel
theorem dX2_aligns_87 : decode cX2_aligns 87 = .ok (.iload 6, 2) := by decide +kernel
theorem dX2_aligns_89 : decode cX2_aligns 89 = .ok (.iadd, 1) := by decide +kernel
theorem dX2_aligns_90 : decode cX2_aligns 90 = .ok (.invokevirtual 69, 3) := by decide +kernel
theorem dX2_aligns_93 : decode cX2_aligns 93 = .ok (.ifCond .eq 25, 3) := by decide +kernel
theorem dX2_aligns_96 : decode cX2_aligns 96 = .ok (.iconst 1, 1) := by decide +kernel
theorem dX2_aligns_97 : decode cX2_aligns 97 = .ok (.aload_n 0, 1) := by decide +kernel
theorem dX2_aligns_98 : decode cX2_aligns 98 = .ok (.getfield 34, 3) := by decide +kernel
theorem dX2_aligns_101 : decode cX2_aligns 101 = .ok (.bipush 9, 2) := by decide +kernel
theorem dX2_aligns_103 : decode cX2_aligns 103 = .ok (.iload 5, 2) := by decide +kernel
theorem dX2_aligns_105 : decode cX2_aligns 105 = .ok (.iconst 1, 1) := by decide +kernel
theorem dX2_aligns_106 : decode cX2_aligns 106 = .ok (.iadd, 1) := by decide +kernel
theorem dX2_aligns_107 : decode cX2_aligns 107 = .ok (.imul, 1) := by decide +kernel
theorem dX2_aligns_108 : decode cX2_aligns 108 = .ok (.iload 6, 2) := by decide +kernel
theorem dX2_aligns_110 : decode cX2_aligns 110 = .ok (.iadd, 1) := by decide +kernel
theorem dX2_aligns_111 : decode cX2_aligns 111 = .ok (.iconst 1, 1) := by decide +kernel
theorem dX2_aligns_112 : decode cX2_aligns 112 = .ok (.iadd, 1) := by decide +kernel
theorem dX2_aligns_113 : decode cX2_aligns 113 = .ok (.iaload, 1) := by decide +kernel
theorem dX2_aligns_114 : decode cX2_aligns 114 = .ok (.iadd, 1) := by decide +kernel
theorem dX2_aligns_115 : decode cX2_aligns 115 = .ok (.goto 4, 3) := by decide +kernel
theorem dX2_aligns_118 : decode cX2_aligns 118 = .ok (.iconst 0, 1) := by decide +kernel
theorem dX2_aligns_119 : decode cX2_aligns 119 = .ok (.istore 7, 2) := by decide +kernel
theorem dX2_aligns_121 : decode cX2_aligns 121 = .ok (.aload_n 0, 1) := by decide +kernel
theorem dX2_aligns_122 : decode cX2_aligns 122 = .ok (.getfield 34, 3) := by decide +kernel
theorem dX2_aligns_125 : decode cX2_aligns 125 = .ok (.bipush 9, 2) := by decide +kernel
theorem dX2_aligns_127 : decode cX2_aligns 127 = .ok (.iload 5, 2) := by decide +kernel
theorem dX2_aligns_129 : decode cX2_aligns 129 = .ok (.iconst 1, 1) := by decide +kernel
theorem dX2_aligns_130 : decode cX2_aligns 130 = .ok (.iadd, 1) := by decide +kernel
theorem dX2_aligns_131 : decode cX2_aligns 131 = .ok (.imul, 1) := by decide +kernel
theorem dX2_aligns_132 : decode cX2_aligns 132 = .ok (.iload 6, 2) := by decide +kernel
theorem dX2_aligns_134 : decode cX2_aligns 134 = .ok (.iadd, 1) := by decide +kernel
theorem dX2_aligns_135 : decode cX2_aligns 135 = .ok (.iaload, 1) := by decide +kernel
theorem dX2_aligns_136 : decode cX2_aligns 136 = .ok (.aload_n 0, 1) := by decide +kernel
theorem dX2_aligns_137 : decode cX2_aligns 137 = .ok (.getfield 34, 3) := by decide +kernel
theorem dX2_aligns_140 : decode cX2_aligns 140 = .ok (.bipush 9, 2) := by decide +kernel
theorem dX2_aligns_142 : decode cX2_aligns 142 = .ok (.iload 5, 2) := by decide +kernel
theorem dX2_aligns_144 : decode cX2_aligns 144 = .ok (.imul, 1) := by decide +kernel
theorem dX2_aligns_145 : decode cX2_aligns 145 = .ok (.iload 6, 2) := by decide +kernel
theorem dX2_aligns_147 : decode cX2_aligns 147 = .ok (.iadd, 1) := by decide +kernel
theorem dX2_aligns_148 : decode cX2_aligns 148 = .ok (.iconst 1, 1) := by decide +kernel
theorem dX2_aligns_149 : decode cX2_aligns 149 = .ok (.iadd, 1) := by decide +kernel
theorem dX2_aligns_150 : decode cX2_aligns 150 = .ok (.iaload, 1) := by decide +kernel
theorem dX2_aligns_151 : decode cX2_aligns 151 = .ok (.if_icmp .le 21, 3) := by decide +kernel
theorem dX2_aligns_154 : decode cX2_aligns 154 = .ok (.aload_n 0, 1) := by decide +kernel
theorem dX2_aligns_155 : decode cX2_aligns 155 = .ok (.getfield 34, 3) := by decide +kernel
theorem dX2_aligns_158 : decode cX2_aligns 158 = .ok (.bipush 9, 2) := by decide +kernel
theorem dX2_aligns_160 : decode cX2_aligns 160 = .ok (.iload 5, 2) := by decide +kernel
theorem dX2_aligns_162 : decode cX2_aligns 162 = .ok (.iconst 1, 1) := by decide +kernel
theorem dX2_aligns_163 : decode cX2_aligns 163 = .ok (.iadd, 1) := by decide +kernel
theorem dX2_aligns_164 : decode cX2_aligns 164 = .ok (.imul, 1) := by decide +kernel
theorem dX2_aligns_165 : decode cX2_aligns 165 = .ok (.iload 6, 2) := by decide +kernel
theorem dX2_aligns_167 : decode cX2_aligns 167 = .ok (.iadd, 1) := by decide +kernel
theorem dX2_aligns_168 : decode cX2_aligns 168 = .ok (.iaload, 1) := by decide +kernel
theorem dX2_aligns_169 : decode cX2_aligns 169 = .ok (.goto 18, 3) := by decide +kernel
theorem dX2_aligns_172 : decode cX2_aligns 172 = .ok (.aload_n 0, 1) := by decide +kernel
theorem dX2_aligns_173 : decode cX2_aligns 173 = .ok (.getfield 34, 3) := by decide +kernel
theorem dX2_aligns_176 : decode cX2_aligns 176 = .ok (.bipush 9, 2) := by decide +kernel
theorem dX2_aligns_178 : decode cX2_aligns 178 = .ok (.iload 5, 2) := by decide +kernel
theorem dX2_aligns_180 : decode cX2_aligns 180 = .ok (.imul, 1) := by decide +kernel
theorem dX2_aligns_181 : decode cX2_aligns 181 = .ok (.iload 6, 2) := by decide +kernel
theorem dX2_aligns_183 : decode cX2_aligns 183 = .ok (.iadd, 1) := by decide +kernel
theorem dX2_aligns_184 : decode cX2_aligns 184 = .ok (.iconst 1, 1) := by decide +kernel
theorem dX2_aligns_185 : decode cX2_aligns 185 = .ok (.iadd, 1) := by decide +kernel
theorem dX2_aligns_186 : decode cX2_aligns 186 = .ok (.iaload, 1) := by decide +kernel
theorem dX2_aligns_187 : decode cX2_aligns 187 = .ok (.istore 8, 2) := by decide +kernel
theorem dX2_aligns_189 : decode cX2_aligns 189 = .ok (.aload_n 0, 1) := by decide +kernel
theorem dX2_aligns_190 : decode cX2_aligns 190 = .ok (.getfield 34, 3) := by decide +kernel
theorem dX2_aligns_193 : decode cX2_aligns 193 = .ok (.bipush 9, 2) := by decide +kernel
theorem dX2_aligns_195 : decode cX2_aligns 195 = .ok (.iload 5, 2) := by decide +kernel
theorem dX2_aligns_197 : decode cX2_aligns 197 = .ok (.imul, 1) := by decide +kernel
theorem dX2_aligns_198 : decode cX2_aligns 198 = .ok (.iload 6, 2) := by decide +kernel
theorem dX2_aligns_200 : decode cX2_aligns 200 = .ok (.iadd, 1) := by decide +kernel
theorem dX2_aligns_201 : decode cX2_aligns 201 = .ok (.iload 7, 2) := by decide +kernel
theorem dX2_aligns_203 : decode cX2_aligns 203 = .ok (.iload 8, 2) := by decide +kernel
theorem dX2_aligns_205 : decode cX2_aligns 205 = .ok (.if_icmp .le 8, 3) := by decide +kernel
theorem dX2_aligns_208 : decode cX2_aligns 208 = .ok (.iload 7, 2) := by decide +kernel
theorem dX2_aligns_210 : decode cX2_aligns 210 = .ok (.goto 5, 3) := by decide +kernel
theorem dX2_aligns_213 : decode cX2_aligns 213 = .ok (.iload 8, 2) := by decide +kernel
theorem dX2_aligns_215 : decode cX2_aligns 215 = .ok (.iastore, 1) := by decide +kernel
theorem dX2_aligns_216 : decode cX2_aligns 216 = .ok (.iinc 6 (-1), 3) := by decide +kernel
theorem dX2_aligns_219 : decode cX2_aligns 219 = .ok (.goto (-149), 3) := by decide +kernel
theorem dX2_aligns_222 : decode cX2_aligns 222 = .ok (.iinc 5 (-1), 3) := by decide +kernel
theorem dX2_aligns_225 : decode cX2_aligns 225 = .ok (.goto (-166), 3) := by decide +kernel
theorem dX2_aligns_228 : decode cX2_aligns 228 = .ok (.iconst 0, 1) := by decide +kernel
theorem dX2_aligns_229 : decode cX2_aligns 229 = .ok (.istore 5, 2) := by decide +kernel
theorem dX2_aligns_231 : decode cX2_aligns 231 = .ok (.iconst 0, 1) := by decide +kernel
theorem dX2_aligns_232 : decode cX2_aligns 232 = .ok (.istore 6, 2) := by decide +kernel
theorem dX2_aligns_234 : decode cX2_aligns 234 = .ok (.iload 6, 2) := by decide +kernel
theorem dX2_aligns_236 : decode cX2_aligns 236 = .ok (.iload_n 3, 1) := by decide +kernel
theorem dX2_aligns_237 : decode cX2_aligns 237 = .ok (.if_icmp .ge 126, 3) := by decide +kernel
theorem dX2_aligns_240 : decode cX2_aligns 240 = .ok (.iconst (-1), 1) := by decide +kernel
theorem dX2_aligns_241 : decode cX2_aligns 241 = .ok (.istore 7, 2) := by decide +kernel
theorem dX2_aligns_243 : decode cX2_aligns 243 = .ok (.iload 5, 2) := by decide +kernel
theorem dX2_aligns_245 : decode cX2_aligns 245 = .ok (.istore 8, 2) := by decide +kernel
theorem dX2_aligns_247 : decode cX2_aligns 247 = .ok (.iload 8, 2) := by decide +kernel
theorem dX2_aligns_249 : decode cX2_aligns 249 = .ok (.iload 4, 2) := by decide +kernel
theorem dX2_aligns_251 : decode cX2_aligns 251 = .ok (.if_icmp .ge 75, 3) := by decide +kernel
theorem dX2_aligns_254 : decode cX2_aligns 254 = .ok (.iload 7, 2) := by decide +kernel
theorem dX2_aligns_256 : decode cX2_aligns 256 = .ok (.iconst (-1), 1) := by decide +kernel
theorem dX2_aligns_257 : decode cX2_aligns 257 = .ok (.if_icmp .ne 69, 3) := by decide +kernel
theorem dX2_aligns_260 : decode cX2_aligns 260 = .ok (.aload_n 0, 1) := by decide +kernel
theorem dX2_aligns_261 : decode cX2_aligns 261 = .ok (.bipush 8, 2) := by decide +kernel
theorem dX2_aligns_263 : decode cX2_aligns 263 = .ok (.iload_n 1, 1) := by decide +kernel
theorem dX2_aligns_264 : decode cX2_aligns 264 = .ok (.imul, 1) := by decide +kernel
theorem dX2_aligns_265 : decode cX2_aligns 265 = .ok (.iload 6, 2) := by decide +kernel
theorem dX2_aligns_267 : decode cX2_aligns 267 = .ok (.iadd, 1) := by decide +kernel
theorem dX2_aligns_268 : decode cX2_aligns 268 = .ok (.bipush 8, 2) := by decide +kernel
theorem dX2_aligns_270 : decode cX2_aligns 270 = .ok (.iload_n 2, 1) := by decide +kernel
theorem dX2_aligns_271 : decode cX2_aligns 271 = .ok (.imul, 1) := by decide +kernel
theorem dX2_aligns_272 : decode cX2_aligns 272 = .ok (.iload 8, 2) := by decide +kernel
theorem dX2_aligns_274 : decode cX2_aligns 274 = .ok (.iadd, 1) := by decide +kernel
theorem dX2_aligns_275 : decode cX2_aligns 275 = .ok (.invokevirtual 69, 3) := by decide +kernel
theorem dX2_aligns_278 : decode cX2_aligns 278 = .ok (.ifCond .eq 42, 3) := by decide +kernel
theorem dX2_aligns_281 : decode cX2_aligns 281 = .ok (.iconst 1, 1) := by decide +kernel
theorem dX2_aligns_282 : decode cX2_aligns 282 = .ok (.aload_n 0, 1) := by decide +kernel
theorem dX2_aligns_283 : decode cX2_aligns 283 = .ok (.getfield 34, 3) := by decide +kernel
theorem dX2_aligns_286 : decode cX2_aligns 286 = .ok (.bipush 9, 2) := by decide +kernel
theorem dX2_aligns_288 : decode cX2_aligns 288 = .ok (.iload 6, 2) := by decide +kernel
theorem dX2_aligns_290 : decode cX2_aligns 290 = .ok (.iconst 1, 1) := by decide +kernel
theorem dX2_aligns_291 : decode cX2_aligns 291 = .ok (.iadd, 1) := by decide +kernel
theorem dX2_aligns_292 : decode cX2_aligns 292 = .ok (.imul, 1) := by decide +kernel
theorem dX2_aligns_293 : decode cX2_aligns 293 = .ok (.iload 8, 2) := by decide +kernel
theorem dX2_aligns_295 : decode cX2_aligns 295 = .ok (.iadd, 1) := by decide +kernel
theorem dX2_aligns_296 : decode cX2_aligns 296 = .ok (.iconst 1, 1) := by decide +kernel
theorem dX2_aligns_297 : decode cX2_aligns 297 = .ok (.iadd, 1) := by decide +kernel
theorem dX2_aligns_298 : decode cX2_aligns 298 = .ok (.iaload, 1) := by decide +kernel
theorem dX2_aligns_299 : decode cX2_aligns 299 = .ok (.iadd, 1) := by decide +kernel
theorem dX2_aligns_300 : decode cX2_aligns 300 = .ok (.aload_n 0, 1) := by decide +kernel
theorem dX2_aligns_301 : decode cX2_aligns 301 = .ok (.getfield 34, 3) := by decide +kernel
theorem dX2_aligns_304 : decode cX2_aligns 304 = .ok (.bipush 9, 2) := by decide +kernel
theorem dX2_aligns_306 : decode cX2_aligns 306 = .ok (.iload 6, 2) := by decide +kernel
theorem dX2_aligns_308 : decode cX2_aligns 308 = .ok (.imul, 1) := by decide +kernel
theorem dX2_aligns_309 : decode cX2_aligns 309 = .ok (.iload 5, 2) := by decide +kernel
theorem dX2_aligns_311 : decode cX2_aligns 311 = .ok (.iadd, 1) := by decide +kernel
theorem dX2_aligns_312 : decode cX2_aligns 312 = .ok (.iaload, 1) := by decide +kernel
theorem dX2_aligns_313 : decode cX2_aligns 313 = .ok (.if_icmp .ne 7, 3) := by decide +kernel
theorem dX2_aligns_316 : decode cX2_aligns 316 = .ok (.iload 8, 2) := by decide +kernel
theorem dX2_aligns_318 : decode cX2_aligns 318 = .ok (.istore 7, 2) := by decide +kernel
theorem dX2_aligns_320 : decode cX2_aligns 320 = .ok (.iinc 8 1, 3) := by decide +kernel
theorem dX2_aligns_323 : decode cX2_aligns 323 = .ok (.goto (-76), 3) := by decide +kernel
theorem dX2_aligns_326 : decode cX2_aligns 326 = .ok (.aload_n 0, 1) := by decide +kernel
theorem dX2_aligns_327 : decode cX2_aligns 327 = .ok (.getfield 31, 3) := by decide +kernel
theorem dX2_aligns_330 : decode cX2_aligns 330 = .ok (.bipush 8, 2) := by decide +kernel
theorem dX2_aligns_332 : decode cX2_aligns 332 = .ok (.iload_n 1, 1) := by decide +kernel
theorem dX2_aligns_333 : decode cX2_aligns 333 = .ok (.imul, 1) := by decide +kernel
theorem dX2_aligns_334 : decode cX2_aligns 334 = .ok (.iload 6, 2) := by decide +kernel
theorem dX2_aligns_336 : decode cX2_aligns 336 = .ok (.iadd, 1) := by decide +kernel
theorem dX2_aligns_337 : decode cX2_aligns 337 = .ok (.iload 7, 2) := by decide +kernel
theorem dX2_aligns_339 : decode cX2_aligns 339 = .ok (.iastore, 1) := by decide +kernel
theorem dX2_aligns_340 : decode cX2_aligns 340 = .ok (.iload 7, 2) := by decide +kernel
theorem dX2_aligns_342 : decode cX2_aligns 342 = .ok (.iconst (-1), 1) := by decide +kernel
theorem dX2_aligns_343 : decode cX2_aligns 343 = .ok (.if_icmp .ne 8, 3) := by decide +kernel
theorem dX2_aligns_346 : decode cX2_aligns 346 = .ok (.iload 5, 2) := by decide +kernel
theorem dX2_aligns_348 : decode cX2_aligns 348 = .ok (.goto 7, 3) := by decide +kernel
theorem dX2_aligns_351 : decode cX2_aligns 351 = .ok (.iload 7, 2) := by decide +kernel
theorem dX2_aligns_353 : decode cX2_aligns 353 = .ok (.iconst 1, 1) := by decide +kernel
theorem dX2_aligns_354 : decode cX2_aligns 354 = .ok (.iadd, 1) := by decide +kernel
theorem dX2_aligns_355 : decode cX2_aligns 355 = .ok (.istore 5, 2) := by decide +kernel
theorem dX2_aligns_357 : decode cX2_aligns 357 = .ok (.iinc 6 1, 3) := by decide +kernel
theorem dX2_aligns_360 : decode cX2_aligns 360 = .ok (.goto (-126), 3) := by decide +kernel
theorem dX2_aligns_363 : decode cX2_aligns 363 = .ok (.return_, 1) := by decide +kernel
set_option maxRecDepth 20000 in
theorem ggX2_alignsAll_X2_aligns : GoodIn wsX2_alignsAll wsX2_aligns := goodIn_ca (goodIn_r _ [6, 7, 8, 9, 10, 11, 12, 5, 13, 14, 15, 16, 17, 18, 1, 19, 20, 21, 22, 23, 24, 25, 26, 27, 28, 29, 30, 31, 32, 33, 34, 35, 36] rfl (by decide +kernel)) (goodIn_sub (fun _ h => List.mem_cons_of_mem _ (List.mem_append_right _ h)) (by decide +kernel))
set_option maxRecDepth 20000 in
theorem gX2_alignsAll_X2_aligns : GoodIn wsX2_alignsAll (wsV RX2 72 RX2 yX2_aligns wsX2_aligns) := goodIn_app (goodIn_of _ (by decide +kernel)) ggX2_alignsAll_X2_aligns
theorem dX2_alignsAll_0 : decode cX2_alignsAll 0 = .ok (.iconst 0, 1) := by decide +kernel
theorem dX2_alignsAll_1 : decode cX2_alignsAll 1 = .ok (.istore_n 1, 1) := by decide +kernel
theorem dX2_alignsAll_2 : decode cX2_alignsAll 2 = .ok (.iload_n 1, 1) := by decide +kernel
theorem dX2_alignsAll_3 : decode cX2_alignsAll 3 = .ok (.aload_n 0, 1) := by decide +kernel
theorem dX2_alignsAll_4 : decode cX2_alignsAll 4 = .ok (.getfield 41, 3) := by decide +kernel
theorem dX2_alignsAll_7 : decode cX2_alignsAll 7 = .ok (.if_icmp .ge 14, 3) := by decide +kernel
theorem dX2_alignsAll_10 : decode cX2_alignsAll 10 = .ok (.aload_n 0, 1) := by decide +kernel
theorem dX2_alignsAll_11 : decode cX2_alignsAll 11 = .ok (.iload_n 1, 1) := by decide +kernel
theorem dX2_alignsAll_12 : decode cX2_alignsAll 12 = .ok (.invokevirtual 72, 3) := by decide +kernel
theorem dX2_alignsAll_15 : decode cX2_alignsAll 15 = .ok (.iinc 1 1, 3) := by decide +kernel
theorem dX2_alignsAll_18 : decode cX2_alignsAll 18 = .ok (.goto (-16), 3) := by decide +kernel
theorem dX2_alignsAll_21 : decode cX2_alignsAll 21 = .ok (.return_, 1) := by decide +kernel
set_option maxRecDepth 20000 in
theorem ggX2_alignedOf_X2_isMail : GoodIn wsX2_alignedOf wsX2_isMail := goodIn_r _ [7, 8, 9, 10, 6, 11, 42, 43, 44, 45, 46, 47, 48, 49, 50, 51, 52] rfl (by decide +kernel)
set_option maxRecDepth 20000 in
theorem gX2_alignedOf_X2_isMail : GoodIn wsX2_alignedOf (wsV RX2 48 RX2 yX2_isMail wsX2_isMail) := goodIn_app (goodIn_of _ (by decide +kernel)) ggX2_alignedOf_X2_isMail
set_option maxRecDepth 20000 in
theorem ggX2_alignedOf_X2_fails : GoodIn wsX2_alignedOf wsX2_fails := goodIn_r _ [15, 16, 42, 43, 44, 45, 46, 47, 48, 49, 50, 51, 52] rfl (by decide +kernel)
set_option maxRecDepth 20000 in
theorem gX2_alignedOf_X2_fails : GoodIn wsX2_alignedOf (wsV RX2 56 RX2 yX2_fails wsX2_fails) := goodIn_app (goodIn_of _ (by decide +kernel)) ggX2_alignedOf_X2_fails
set_option maxRecDepth 20000 in
theorem ggX2_alignedOf_X2_aligns : GoodIn wsX2_alignedOf wsX2_aligns := goodIn_ca (goodIn_r _ [20, 1, 21, 2, 22, 23, 24, 6, 25, 26, 27, 28, 29, 30, 8, 31, 32, 33, 34, 35, 36, 37, 42, 43, 44, 45, 46, 47, 48, 49, 50, 51, 52] rfl (by decide +kernel)) (goodIn_sub (fun _ h => List.mem_cons_of_mem _ (List.mem_append_right _ h)) (by decide +kernel))
set_option maxRecDepth 20000 in
theorem gX2_alignedOf_X2_aligns : GoodIn wsX2_alignedOf (wsV RX2 72 RX2 yX2_aligns wsX2_aligns) := goodIn_app (goodIn_of _ (by decide +kernel)) ggX2_alignedOf_X2_aligns
set_option maxRecDepth 20000 in
theorem ggX2_alignedOf_X2_tells : GoodIn wsX2_alignedOf wsX2_tells := goodIn_r _ [41, 16, 42, 43, 44, 45, 46, 47, 48, 49, 50, 51, 52] rfl (by decide +kernel)
set_option maxRecDepth 20000 in
theorem gX2_alignedOf_X2_tells : GoodIn wsX2_alignedOf (wsV RX2 59 RX2 yX2_tells wsX2_tells) := goodIn_app (goodIn_of _ (by decide +kernel)) ggX2_alignedOf_X2_tells
theorem dX2_alignedOf_0 : decode cX2_alignedOf 0 = .ok (.aload_n 0, 1) := by decide +kernel
theorem dX2_alignedOf_1 : decode cX2_alignedOf 1 = .ok (.iload_n 1, 1) := by decide +kernel
theorem dX2_alignedOf_2 : decode cX2_alignedOf 2 = .ok (.invokevirtual 48, 3) := by decide +kernel
theorem dX2_alignedOf_5 : decode cX2_alignedOf 5 = .ok (.ifCond .ne 9, 3) := by decide +kernel
theorem dX2_alignedOf_8 : decode cX2_alignedOf 8 = .ok (.aload_n 0, 1) := by decide +kernel
theorem dX2_alignedOf_9 : decode cX2_alignedOf 9 = .ok (.iconst 1, 1) := by decide +kernel
theorem dX2_alignedOf_10 : decode cX2_alignedOf 10 = .ok (.invokevirtual 56, 3) := by decide +kernel
theorem dX2_alignedOf_13 : decode cX2_alignedOf 13 = .ok (.ireturn, 1) := by decide +kernel
theorem dX2_alignedOf_14 : decode cX2_alignedOf 14 = .ok (.aload_n 0, 1) := by decide +kernel
theorem dX2_alignedOf_15 : decode cX2_alignedOf 15 = .ok (.iload_n 1, 1) := by decide +kernel
theorem dX2_alignedOf_16 : decode cX2_alignedOf 16 = .ok (.invokevirtual 72, 3) := by decide +kernel
theorem dX2_alignedOf_19 : decode cX2_alignedOf 19 = .ok (.iconst 0, 1) := by decide +kernel
theorem dX2_alignedOf_20 : decode cX2_alignedOf 20 = .ok (.istore_n 2, 1) := by decide +kernel
theorem dX2_alignedOf_21 : decode cX2_alignedOf 21 = .ok (.iconst 0, 1) := by decide +kernel
theorem dX2_alignedOf_22 : decode cX2_alignedOf 22 = .ok (.istore_n 3, 1) := by decide +kernel
theorem dX2_alignedOf_23 : decode cX2_alignedOf 23 = .ok (.iload_n 3, 1) := by decide +kernel
theorem dX2_alignedOf_24 : decode cX2_alignedOf 24 = .ok (.aload_n 0, 1) := by decide +kernel
theorem dX2_alignedOf_25 : decode cX2_alignedOf 25 = .ok (.getfield 22, 3) := by decide +kernel
theorem dX2_alignedOf_28 : decode cX2_alignedOf 28 = .ok (.iload_n 1, 1) := by decide +kernel
theorem dX2_alignedOf_29 : decode cX2_alignedOf 29 = .ok (.iaload, 1) := by decide +kernel
theorem dX2_alignedOf_30 : decode cX2_alignedOf 30 = .ok (.if_icmp .ge 32, 3) := by decide +kernel
theorem dX2_alignedOf_33 : decode cX2_alignedOf 33 = .ok (.iload_n 2, 1) := by decide +kernel
theorem dX2_alignedOf_34 : decode cX2_alignedOf 34 = .ok (.aload_n 0, 1) := by decide +kernel
theorem dX2_alignedOf_35 : decode cX2_alignedOf 35 = .ok (.getfield 31, 3) := by decide +kernel
theorem dX2_alignedOf_38 : decode cX2_alignedOf 38 = .ok (.bipush 8, 2) := by decide +kernel
theorem dX2_alignedOf_40 : decode cX2_alignedOf 40 = .ok (.iload_n 1, 1) := by decide +kernel
theorem dX2_alignedOf_41 : decode cX2_alignedOf 41 = .ok (.imul, 1) := by decide +kernel
theorem dX2_alignedOf_42 : decode cX2_alignedOf 42 = .ok (.iload_n 3, 1) := by decide +kernel
theorem dX2_alignedOf_43 : decode cX2_alignedOf 43 = .ok (.iadd, 1) := by decide +kernel
theorem dX2_alignedOf_44 : decode cX2_alignedOf 44 = .ok (.iaload, 1) := by decide +kernel
theorem dX2_alignedOf_45 : decode cX2_alignedOf 45 = .ok (.iconst (-1), 1) := by decide +kernel
theorem dX2_alignedOf_46 : decode cX2_alignedOf 46 = .ok (.if_icmp .ne 7, 3) := by decide +kernel
theorem dX2_alignedOf_49 : decode cX2_alignedOf 49 = .ok (.iconst 0, 1) := by decide +kernel
theorem dX2_alignedOf_50 : decode cX2_alignedOf 50 = .ok (.goto 4, 3) := by decide +kernel
theorem dX2_alignedOf_53 : decode cX2_alignedOf 53 = .ok (.iconst 1, 1) := by decide +kernel
theorem dX2_alignedOf_54 : decode cX2_alignedOf 54 = .ok (.iadd, 1) := by decide +kernel
theorem dX2_alignedOf_55 : decode cX2_alignedOf 55 = .ok (.istore_n 2, 1) := by decide +kernel
theorem dX2_alignedOf_56 : decode cX2_alignedOf 56 = .ok (.iinc 3 1, 3) := by decide +kernel
theorem dX2_alignedOf_59 : decode cX2_alignedOf 59 = .ok (.goto (-36), 3) := by decide +kernel
theorem dX2_alignedOf_62 : decode cX2_alignedOf 62 = .ok (.aload_n 0, 1) := by decide +kernel
theorem dX2_alignedOf_63 : decode cX2_alignedOf 63 = .ok (.iload_n 2, 1) := by decide +kernel
theorem dX2_alignedOf_64 : decode cX2_alignedOf 64 = .ok (.invokevirtual 59, 3) := by decide +kernel
theorem dX2_alignedOf_67 : decode cX2_alignedOf 67 = .ok (.ireturn, 1) := by decide +kernel
set_option maxRecDepth 20000 in
theorem ggX2_aligned_X2_alignedOf : GoodIn wsX2_aligned wsX2_alignedOf := goodIn_ca (goodIn_r _ [5, 6, 7, 8, 9, 10, 4, 11, 12, 13, 14, 15, 16, 17, 18, 19, 20, 21, 22, 23, 24, 25, 26, 27, 28, 29, 30, 31, 32, 33, 34, 35, 36, 37, 38, 39, 40, 41, 42, 43, 44, 45, 46, 47, 48, 49, 50, 51, 52, 53, 54, 55, 56] rfl (by decide +kernel)) (goodIn_sub (fun _ h => List.mem_cons_of_mem _ (List.mem_append_right _ h)) (by decide +kernel))
set_option maxRecDepth 20000 in
theorem gX2_aligned_X2_alignedOf : GoodIn wsX2_aligned (wsV RX2 76 RX2 yX2_alignedOf wsX2_alignedOf) := goodIn_app (goodIn_of _ (by decide +kernel)) ggX2_aligned_X2_alignedOf
theorem dX2_aligned_0 : decode cX2_aligned 0 = .ok (.aload_n 0, 1) := by decide +kernel
theorem dX2_aligned_1 : decode cX2_aligned 1 = .ok (.iload_n 1, 1) := by decide +kernel
theorem dX2_aligned_2 : decode cX2_aligned 2 = .ok (.invokevirtual 76, 3) := by decide +kernel
theorem dX2_aligned_5 : decode cX2_aligned 5 = .ok (.ireturn, 1) := by decide +kernel
set_option maxRecDepth 20000 in
theorem ggX2_alignedByTrying_X2_alignedOf : GoodIn wsX2_alignedByTrying wsX2_alignedOf := goodIn_ca (goodIn_r _ [5, 6, 7, 8, 9, 10, 4, 11, 12, 13, 14, 15, 16, 17, 18, 19, 20, 21, 22, 23, 24, 25, 26, 27, 28, 29, 30, 31, 32, 33, 34, 35, 36, 37, 38, 39, 40, 41, 42, 43, 44, 45, 46, 47, 48, 49, 50, 51, 52, 53, 54, 55, 56] rfl (by decide +kernel)) (goodIn_sub (fun _ h => List.mem_cons_of_mem _ (List.mem_append_right _ h)) (by decide +kernel))
set_option maxRecDepth 20000 in
theorem gX2_alignedByTrying_X2_alignedOf : GoodIn wsX2_alignedByTrying (wsV RX2 76 RX2 yX2_alignedOf wsX2_alignedOf) := goodIn_app (goodIn_of _ (by decide +kernel)) ggX2_alignedByTrying_X2_alignedOf
theorem dX2_alignedByTrying_0 : decode cX2_alignedByTrying 0 = .ok (.aload_n 0, 1) := by decide +kernel
theorem dX2_alignedByTrying_1 : decode cX2_alignedByTrying 1 = .ok (.iload_n 1, 1) := by decide +kernel
theorem dX2_alignedByTrying_2 : decode cX2_alignedByTrying 2 = .ok (.invokevirtual 76, 3) := by decide +kernel
theorem dX2_alignedByTrying_5 : decode cX2_alignedByTrying 5 = .ok (.ireturn, 1) := by decide +kernel
set_option maxRecDepth 20000 in
theorem ggX2_partner_X2_isLine : GoodIn wsX2_partner wsX2_isLine := goodIn_ca (goodIn_r _ [6, 7, 8, 9, 10, 5, 11, 12, 13, 14, 15, 46, 47, 48, 49, 50, 51, 52, 53, 54, 55, 56] rfl (by decide +kernel)) (goodIn_sub (fun _ h => List.mem_cons_of_mem _ (List.mem_append_right _ h)) (by decide +kernel))
set_option maxRecDepth 20000 in
theorem gX2_partner_X2_isLine : GoodIn wsX2_partner (wsV RX2 62 RX2 yX2_isLine wsX2_isLine) := goodIn_app (goodIn_of _ (by decide +kernel)) ggX2_partner_X2_isLine
set_option maxRecDepth 20000 in
theorem ggX2_partner_X2_fails : GoodIn wsX2_partner wsX2_fails := goodIn_r _ [19, 20, 46, 47, 48, 49, 50, 51, 52, 53, 54, 55, 56] rfl (by decide +kernel)
set_option maxRecDepth 20000 in
theorem gX2_partner_X2_fails : GoodIn wsX2_partner (wsV RX2 56 RX2 yX2_fails wsX2_fails) := goodIn_app (goodIn_of _ (by decide +kernel)) ggX2_partner_X2_fails
set_option maxRecDepth 20000 in
theorem ggX2_partner_X2_aligns : GoodIn wsX2_partner wsX2_aligns := goodIn_ca (goodIn_r _ [24, 7, 25, 1, 26, 27, 28, 5, 29, 30, 31, 32, 33, 34, 12, 35, 36, 37, 38, 39, 40, 41, 46, 47, 48, 49, 50, 51, 52, 53, 54, 55, 56] rfl (by decide +kernel)) (goodIn_sub (fun _ h => List.mem_cons_of_mem _ (List.mem_append_right _ h)) (by decide +kernel))
set_option maxRecDepth 20000 in
theorem gX2_partner_X2_aligns : GoodIn wsX2_partner (wsV RX2 72 RX2 yX2_aligns wsX2_aligns) := goodIn_app (goodIn_of _ (by decide +kernel)) ggX2_partner_X2_aligns
set_option maxRecDepth 20000 in
theorem ggX2_partner_X2_tells : GoodIn wsX2_partner wsX2_tells := goodIn_r _ [45, 20, 46, 47, 48, 49, 50, 51, 52, 53, 54, 55, 56] rfl (by decide +kernel)
set_option maxRecDepth 20000 in
theorem gX2_partner_X2_tells : GoodIn wsX2_partner (wsV RX2 59 RX2 yX2_tells wsX2_tells) := goodIn_app (goodIn_of _ (by decide +kernel)) ggX2_partner_X2_tells
theorem dX2_partner_0 : decode cX2_partner 0 = .ok (.aload_n 0, 1) := by decide +kernel
theorem dX2_partner_1 : decode cX2_partner 1 = .ok (.iload_n 1, 1) := by decide +kernel
theorem dX2_partner_2 : decode cX2_partner 2 = .ok (.iload_n 2, 1) := by decide +kernel
theorem dX2_partner_3 : decode cX2_partner 3 = .ok (.invokevirtual 62, 3) := by decide +kernel
theorem dX2_partner_6 : decode cX2_partner 6 = .ok (.ifCond .ne 9, 3) := by decide +kernel
theorem dX2_partner_9 : decode cX2_partner 9 = .ok (.aload_n 0, 1) := by decide +kernel
theorem dX2_partner_10 : decode cX2_partner 10 = .ok (.iconst 1, 1) := by decide +kernel
theorem dX2_partner_11 : decode cX2_partner 11 = .ok (.invokevirtual 56, 3) := by decide +kernel
theorem dX2_partner_14 : decode cX2_partner 14 = .ok (.ireturn, 1) := by decide +kernel
theorem dX2_partner_15 : decode cX2_partner 15 = .ok (.aload_n 0, 1) := by decide +kernel
theorem dX2_partner_16 : decode cX2_partner 16 = .ok (.iload_n 1, 1) := by decide +kernel
theorem dX2_partner_17 : decode cX2_partner 17 = .ok (.invokevirtual 72, 3) := by decide +kernel
theorem dX2_partner_20 : decode cX2_partner 20 = .ok (.aload_n 0, 1) := by decide +kernel
theorem dX2_partner_21 : decode cX2_partner 21 = .ok (.getfield 31, 3) := by decide +kernel
theorem dX2_partner_24 : decode cX2_partner 24 = .ok (.bipush 8, 2) := by decide +kernel
theorem dX2_partner_26 : decode cX2_partner 26 = .ok (.iload_n 1, 1) := by decide +kernel
theorem dX2_partner_27 : decode cX2_partner 27 = .ok (.imul, 1) := by decide +kernel
theorem dX2_partner_28 : decode cX2_partner 28 = .ok (.iload_n 2, 1) := by decide +kernel
theorem dX2_partner_29 : decode cX2_partner 29 = .ok (.iadd, 1) := by decide +kernel
theorem dX2_partner_30 : decode cX2_partner 30 = .ok (.iaload, 1) := by decide +kernel
theorem dX2_partner_31 : decode cX2_partner 31 = .ok (.iconst (-1), 1) := by decide +kernel
theorem dX2_partner_32 : decode cX2_partner 32 = .ok (.if_icmp .ne 11, 3) := by decide +kernel
theorem dX2_partner_35 : decode cX2_partner 35 = .ok (.aload_n 0, 1) := by decide +kernel
theorem dX2_partner_36 : decode cX2_partner 36 = .ok (.iconst 2, 1) := by decide +kernel
theorem dX2_partner_37 : decode cX2_partner 37 = .ok (.invokevirtual 56, 3) := by decide +kernel
theorem dX2_partner_40 : decode cX2_partner 40 = .ok (.goto 18, 3) := by decide +kernel
theorem dX2_partner_43 : decode cX2_partner 43 = .ok (.aload_n 0, 1) := by decide +kernel
theorem dX2_partner_44 : decode cX2_partner 44 = .ok (.aload_n 0, 1) := by decide +kernel
theorem dX2_partner_45 : decode cX2_partner 45 = .ok (.getfield 31, 3) := by decide +kernel
theorem dX2_partner_48 : decode cX2_partner 48 = .ok (.bipush 8, 2) := by decide +kernel
theorem dX2_partner_50 : decode cX2_partner 50 = .ok (.iload_n 1, 1) := by decide +kernel
theorem dX2_partner_51 : decode cX2_partner 51 = .ok (.imul, 1) := by decide +kernel
theorem dX2_partner_52 : decode cX2_partner 52 = .ok (.iload_n 2, 1) := by decide +kernel
theorem dX2_partner_53 : decode cX2_partner 53 = .ok (.iadd, 1) := by decide +kernel
theorem dX2_partner_54 : decode cX2_partner 54 = .ok (.iaload, 1) := by decide +kernel
theorem dX2_partner_55 : decode cX2_partner 55 = .ok (.invokevirtual 59, 3) := by decide +kernel
theorem dX2_partner_58 : decode cX2_partner 58 = .ok (.ireturn, 1) := by decide +kernel
set_option maxRecDepth 20000 in
theorem ggX2_origin_X2_parentOf : GoodIn wsX2_origin wsX2_parentOf := goodIn_ca (goodIn_r _ [6, 7, 8, 9, 10, 5, 11, 12, 13, 14, 15, 16, 17, 18, 19, 20, 21, 22, 23, 24] rfl (by decide +kernel)) (goodIn_sub (fun _ h => List.mem_cons_of_mem _ (List.mem_append_right _ h)) (by decide +kernel))
set_option maxRecDepth 20000 in
theorem gX2_origin_X2_parentOf : GoodIn wsX2_origin (wsV RX2 66 RX2 yX2_parentOf wsX2_parentOf) := goodIn_app (goodIn_of _ (by decide +kernel)) ggX2_origin_X2_parentOf
theorem dX2_origin_0 : decode cX2_origin 0 = .ok (.iload_n 1, 1) := by decide +kernel
theorem dX2_origin_1 : decode cX2_origin 1 = .ok (.istore_n 3, 1) := by decide +kernel
theorem dX2_origin_2 : decode cX2_origin 2 = .ok (.iload_n 2, 1) := by decide +kernel
theorem dX2_origin_3 : decode cX2_origin 3 = .ok (.istore 4, 2) := by decide +kernel
theorem dX2_origin_5 : decode cX2_origin 5 = .ok (.aload_n 0, 1) := by decide +kernel
theorem dX2_origin_6 : decode cX2_origin 6 = .ok (.getfield 31, 3) := by decide +kernel
theorem dX2_origin_9 : decode cX2_origin 9 = .ok (.bipush 8, 2) := by decide +kernel
theorem dX2_origin_11 : decode cX2_origin 11 = .ok (.iload_n 3, 1) := by decide +kernel
theorem dX2_origin_12 : decode cX2_origin 12 = .ok (.imul, 1) := by decide +kernel
theorem dX2_origin_13 : decode cX2_origin 13 = .ok (.iload 4, 2) := by decide +kernel
theorem dX2_origin_15 : decode cX2_origin 15 = .ok (.iadd, 1) := by decide +kernel
theorem dX2_origin_16 : decode cX2_origin 16 = .ok (.iaload, 1) := by decide +kernel
theorem dX2_origin_17 : decode cX2_origin 17 = .ok (.iconst (-1), 1) := by decide +kernel
theorem dX2_origin_18 : decode cX2_origin 18 = .ok (.if_icmp .eq 26, 3) := by decide +kernel
theorem dX2_origin_21 : decode cX2_origin 21 = .ok (.aload_n 0, 1) := by decide +kernel
theorem dX2_origin_22 : decode cX2_origin 22 = .ok (.getfield 31, 3) := by decide +kernel
theorem dX2_origin_25 : decode cX2_origin 25 = .ok (.bipush 8, 2) := by decide +kernel
theorem dX2_origin_27 : decode cX2_origin 27 = .ok (.iload_n 3, 1) := by decide +kernel
theorem dX2_origin_28 : decode cX2_origin 28 = .ok (.imul, 1) := by decide +kernel
theorem dX2_origin_29 : decode cX2_origin 29 = .ok (.iload 4, 2) := by decide +kernel
theorem dX2_origin_31 : decode cX2_origin 31 = .ok (.iadd, 1) := by decide +kernel
theorem dX2_origin_32 : decode cX2_origin 32 = .ok (.iaload, 1) := by decide +kernel
theorem dX2_origin_33 : decode cX2_origin 33 = .ok (.istore 4, 2) := by decide +kernel
theorem dX2_origin_35 : decode cX2_origin 35 = .ok (.aload_n 0, 1) := by decide +kernel
theorem dX2_origin_36 : decode cX2_origin 36 = .ok (.iload_n 3, 1) := by decide +kernel
theorem dX2_origin_37 : decode cX2_origin 37 = .ok (.invokevirtual 66, 3) := by decide +kernel
theorem dX2_origin_40 : decode cX2_origin 40 = .ok (.istore_n 3, 1) := by decide +kernel
theorem dX2_origin_41 : decode cX2_origin 41 = .ok (.goto (-36), 3) := by decide +kernel
theorem dX2_origin_44 : decode cX2_origin 44 = .ok (.bipush 8, 2) := by decide +kernel
theorem dX2_origin_46 : decode cX2_origin 46 = .ok (.iload_n 3, 1) := by decide +kernel
theorem dX2_origin_47 : decode cX2_origin 47 = .ok (.imul, 1) := by decide +kernel
theorem dX2_origin_48 : decode cX2_origin 48 = .ok (.iload 4, 2) := by decide +kernel
theorem dX2_origin_50 : decode cX2_origin 50 = .ok (.iadd, 1) := by decide +kernel
theorem dX2_origin_51 : decode cX2_origin 51 = .ok (.ireturn, 1) := by decide +kernel
set_option maxRecDepth 20000 in
theorem ggX2_originMail_X2_isLine : GoodIn wsX2_originMail wsX2_isLine := goodIn_ca (goodIn_r _ [5, 6, 7, 8, 9, 4, 10, 11, 12, 13, 14, 54, 55, 56, 57, 58, 59, 60, 61, 62, 63, 64] rfl (by decide +kernel)) (goodIn_sub (fun _ h => List.mem_cons_of_mem _ (List.mem_append_right _ h)) (by decide +kernel))
set_option maxRecDepth 20000 in
theorem gX2_originMail_X2_isLine : GoodIn wsX2_originMail (wsV RX2 62 RX2 yX2_isLine wsX2_isLine) := goodIn_app (goodIn_of _ (by decide +kernel)) ggX2_originMail_X2_isLine
set_option maxRecDepth 20000 in
theorem ggX2_originMail_X2_fails : GoodIn wsX2_originMail wsX2_fails := goodIn_r _ [18, 19, 54, 55, 56, 57, 58, 59, 60, 61, 62, 63, 64] rfl (by decide +kernel)
set_option maxRecDepth 20000 in
theorem gX2_originMail_X2_fails : GoodIn wsX2_originMail (wsV RX2 56 RX2 yX2_fails wsX2_fails) := goodIn_app (goodIn_of _ (by decide +kernel)) ggX2_originMail_X2_fails
set_option maxRecDepth 20000 in
theorem ggX2_originMail_X2_alignsAll : GoodIn wsX2_originMail wsX2_alignsAll := goodIn_ca (goodIn_r _ [23, 11, 24, 25, 26, 4, 27, 6, 28, 29, 30, 31, 32, 33, 34, 35, 36, 37, 38, 39, 40, 41, 42, 43, 44, 45, 54, 55, 56, 57, 58, 59, 60, 61, 62, 63, 64] rfl (by decide +kernel)) (goodIn_sub (fun _ h => List.mem_cons_of_mem _ (List.mem_append_right _ h)) (by decide +kernel))
set_option maxRecDepth 20000 in
theorem gX2_originMail_X2_alignsAll : GoodIn wsX2_originMail (wsV RX2 79 RX2 yX2_alignsAll wsX2_alignsAll) := goodIn_app (goodIn_of _ (by decide +kernel)) ggX2_originMail_X2_alignsAll
set_option maxRecDepth 20000 in
theorem ggX2_originMail_X2_origin : GoodIn wsX2_originMail wsX2_origin := goodIn_ca (goodIn_r _ [49, 29, 30, 31, 32, 4, 33, 34, 35, 36, 37, 38, 11, 39, 54, 55, 56, 57, 58, 59, 60, 61, 62, 63, 64] rfl (by decide +kernel)) (goodIn_sub (fun _ h => List.mem_cons_of_mem _ (List.mem_append_right _ h)) (by decide +kernel))
set_option maxRecDepth 20000 in
theorem gX2_originMail_X2_origin : GoodIn wsX2_originMail (wsV RX2 82 RX2 yX2_origin wsX2_origin) := goodIn_app (goodIn_of _ (by decide +kernel)) ggX2_originMail_X2_origin
set_option maxRecDepth 20000 in
theorem ggX2_originMail_X2_tells : GoodIn wsX2_originMail wsX2_tells := goodIn_r _ [53, 19, 54, 55, 56, 57, 58, 59, 60, 61, 62, 63, 64] rfl (by decide +kernel)
set_option maxRecDepth 20000 in
theorem gX2_originMail_X2_tells : GoodIn wsX2_originMail (wsV RX2 59 RX2 yX2_tells wsX2_tells) := goodIn_app (goodIn_of _ (by decide +kernel)) ggX2_originMail_X2_tells
theorem dX2_originMail_0 : decode cX2_originMail 0 = .ok (.aload_n 0, 1) := by decide +kernel
theorem dX2_originMail_1 : decode cX2_originMail 1 = .ok (.iload_n 1, 1) := by decide +kernel
theorem dX2_originMail_2 : decode cX2_originMail 2 = .ok (.iload_n 2, 1) := by decide +kernel
theorem dX2_originMail_3 : decode cX2_originMail 3 = .ok (.invokevirtual 62, 3) := by decide +kernel
theorem dX2_originMail_6 : decode cX2_originMail 6 = .ok (.ifCond .ne 9, 3) := by decide +kernel
theorem dX2_originMail_9 : decode cX2_originMail 9 = .ok (.aload_n 0, 1) := by decide +kernel
theorem dX2_originMail_10 : decode cX2_originMail 10 = .ok (.iconst 1, 1) := by decide +kernel
theorem dX2_originMail_11 : decode cX2_originMail 11 = .ok (.invokevirtual 56, 3) := by decide +kernel
theorem dX2_originMail_14 : decode cX2_originMail 14 = .ok (.ireturn, 1) := by decide +kernel
theorem dX2_originMail_15 : decode cX2_originMail 15 = .ok (.aload_n 0, 1) := by decide +kernel
theorem dX2_originMail_16 : decode cX2_originMail 16 = .ok (.invokevirtual 79, 3) := by decide +kernel
theorem dX2_originMail_19 : decode cX2_originMail 19 = .ok (.aload_n 0, 1) := by decide +kernel
theorem dX2_originMail_20 : decode cX2_originMail 20 = .ok (.aload_n 0, 1) := by decide +kernel
theorem dX2_originMail_21 : decode cX2_originMail 21 = .ok (.iload_n 1, 1) := by decide +kernel
theorem dX2_originMail_22 : decode cX2_originMail 22 = .ok (.iload_n 2, 1) := by decide +kernel
theorem dX2_originMail_23 : decode cX2_originMail 23 = .ok (.invokevirtual 82, 3) := by decide +kernel
theorem dX2_originMail_26 : decode cX2_originMail 26 = .ok (.bipush 8, 2) := by decide +kernel
theorem dX2_originMail_28 : decode cX2_originMail 28 = .ok (.idiv, 1) := by decide +kernel
theorem dX2_originMail_29 : decode cX2_originMail 29 = .ok (.invokevirtual 59, 3) := by decide +kernel
theorem dX2_originMail_32 : decode cX2_originMail 32 = .ok (.ireturn, 1) := by decide +kernel
set_option maxRecDepth 20000 in
theorem ggX2_originLine_X2_isLine : GoodIn wsX2_originLine wsX2_isLine := goodIn_ca (goodIn_r _ [5, 6, 7, 8, 9, 4, 10, 11, 12, 13, 14, 54, 55, 56, 57, 58, 59, 60, 61, 62, 63, 64] rfl (by decide +kernel)) (goodIn_sub (fun _ h => List.mem_cons_of_mem _ (List.mem_append_right _ h)) (by decide +kernel))
set_option maxRecDepth 20000 in
theorem gX2_originLine_X2_isLine : GoodIn wsX2_originLine (wsV RX2 62 RX2 yX2_isLine wsX2_isLine) := goodIn_app (goodIn_of _ (by decide +kernel)) ggX2_originLine_X2_isLine
set_option maxRecDepth 20000 in
theorem ggX2_originLine_X2_fails : GoodIn wsX2_originLine wsX2_fails := goodIn_r _ [18, 19, 54, 55, 56, 57, 58, 59, 60, 61, 62, 63, 64] rfl (by decide +kernel)
set_option maxRecDepth 20000 in
theorem gX2_originLine_X2_fails : GoodIn wsX2_originLine (wsV RX2 56 RX2 yX2_fails wsX2_fails) := goodIn_app (goodIn_of _ (by decide +kernel)) ggX2_originLine_X2_fails
set_option maxRecDepth 20000 in
theorem ggX2_originLine_X2_alignsAll : GoodIn wsX2_originLine wsX2_alignsAll := goodIn_ca (goodIn_r _ [23, 11, 24, 25, 26, 4, 27, 6, 28, 29, 30, 31, 32, 33, 34, 35, 36, 37, 38, 39, 40, 41, 42, 43, 44, 45, 54, 55, 56, 57, 58, 59, 60, 61, 62, 63, 64] rfl (by decide +kernel)) (goodIn_sub (fun _ h => List.mem_cons_of_mem _ (List.mem_append_right _ h)) (by decide +kernel))
set_option maxRecDepth 20000 in
theorem gX2_originLine_X2_alignsAll : GoodIn wsX2_originLine (wsV RX2 79 RX2 yX2_alignsAll wsX2_alignsAll) := goodIn_app (goodIn_of _ (by decide +kernel)) ggX2_originLine_X2_alignsAll
set_option maxRecDepth 20000 in
theorem ggX2_originLine_X2_origin : GoodIn wsX2_originLine wsX2_origin := goodIn_ca (goodIn_r _ [49, 29, 30, 31, 32, 4, 33, 34, 35, 36, 37, 38, 11, 39, 54, 55, 56, 57, 58, 59, 60, 61, 62, 63, 64] rfl (by decide +kernel)) (goodIn_sub (fun _ h => List.mem_cons_of_mem _ (List.mem_append_right _ h)) (by decide +kernel))
set_option maxRecDepth 20000 in
theorem gX2_originLine_X2_origin : GoodIn wsX2_originLine (wsV RX2 82 RX2 yX2_origin wsX2_origin) := goodIn_app (goodIn_of _ (by decide +kernel)) ggX2_originLine_X2_origin
set_option maxRecDepth 20000 in
theorem ggX2_originLine_X2_tells : GoodIn wsX2_originLine wsX2_tells := goodIn_r _ [53, 19, 54, 55, 56, 57, 58, 59, 60, 61, 62, 63, 64] rfl (by decide +kernel)
set_option maxRecDepth 20000 in
theorem gX2_originLine_X2_tells : GoodIn wsX2_originLine (wsV RX2 59 RX2 yX2_tells wsX2_tells) := goodIn_app (goodIn_of _ (by decide +kernel)) ggX2_originLine_X2_tells
theorem dX2_originLine_0 : decode cX2_originLine 0 = .ok (.aload_n 0, 1) := by decide +kernel
theorem dX2_originLine_1 : decode cX2_originLine 1 = .ok (.iload_n 1, 1) := by decide +kernel
theorem dX2_originLine_2 : decode cX2_originLine 2 = .ok (.iload_n 2, 1) := by decide +kernel
theorem dX2_originLine_3 : decode cX2_originLine 3 = .ok (.invokevirtual 62, 3) := by decide +kernel
theorem dX2_originLine_6 : decode cX2_originLine 6 = .ok (.ifCond .ne 9, 3) := by decide +kernel
theorem dX2_originLine_9 : decode cX2_originLine 9 = .ok (.aload_n 0, 1) := by decide +kernel
theorem dX2_originLine_10 : decode cX2_originLine 10 = .ok (.iconst 1, 1) := by decide +kernel
theorem dX2_originLine_11 : decode cX2_originLine 11 = .ok (.invokevirtual 56, 3) := by decide +kernel
theorem dX2_originLine_14 : decode cX2_originLine 14 = .ok (.ireturn, 1) := by decide +kernel
theorem dX2_originLine_15 : decode cX2_originLine 15 = .ok (.aload_n 0, 1) := by decide +kernel
theorem dX2_originLine_16 : decode cX2_originLine 16 = .ok (.invokevirtual 79, 3) := by decide +kernel
theorem dX2_originLine_19 : decode cX2_originLine 19 = .ok (.aload_n 0, 1) := by decide +kernel
theorem dX2_originLine_20 : decode cX2_originLine 20 = .ok (.aload_n 0, 1) := by decide +kernel
theorem dX2_originLine_21 : decode cX2_originLine 21 = .ok (.iload_n 1, 1) := by decide +kernel
theorem dX2_originLine_22 : decode cX2_originLine 22 = .ok (.iload_n 2, 1) := by decide +kernel
theorem dX2_originLine_23 : decode cX2_originLine 23 = .ok (.invokevirtual 82, 3) := by decide +kernel
theorem dX2_originLine_26 : decode cX2_originLine 26 = .ok (.bipush 8, 2) := by decide +kernel
theorem dX2_originLine_28 : decode cX2_originLine 28 = .ok (.irem, 1) := by decide +kernel
theorem dX2_originLine_29 : decode cX2_originLine 29 = .ok (.invokevirtual 59, 3) := by decide +kernel
theorem dX2_originLine_32 : decode cX2_originLine 32 = .ok (.ireturn, 1) := by decide +kernel
theorem dX2_endAlike_0 : decode cX2_endAlike 0 = .ok (.iload_n 3, 1) := by decide +kernel
theorem dX2_endAlike_1 : decode cX2_endAlike 1 = .ok (.aload_n 0, 1) := by decide +kernel
theorem dX2_endAlike_2 : decode cX2_endAlike 2 = .ok (.getfield 22, 3) := by decide +kernel
theorem dX2_endAlike_5 : decode cX2_endAlike 5 = .ok (.iload_n 1, 1) := by decide +kernel
theorem dX2_endAlike_6 : decode cX2_endAlike 6 = .ok (.iaload, 1) := by decide +kernel
theorem dX2_endAlike_7 : decode cX2_endAlike 7 = .ok (.if_icmp .gt 17, 3) := by decide +kernel
theorem dX2_endAlike_10 : decode cX2_endAlike 10 = .ok (.iload_n 3, 1) := by decide +kernel
theorem dX2_endAlike_11 : decode cX2_endAlike 11 = .ok (.aload_n 0, 1) := by decide +kernel
theorem dX2_endAlike_12 : decode cX2_endAlike 12 = .ok (.getfield 22, 3) := by decide +kernel
theorem dX2_endAlike_15 : decode cX2_endAlike 15 = .ok (.iload_n 2, 1) := by decide +kernel
theorem dX2_endAlike_16 : decode cX2_endAlike 16 = .ok (.iaload, 1) := by decide +kernel
theorem dX2_endAlike_17 : decode cX2_endAlike 17 = .ok (.if_icmp .gt 7, 3) := by decide +kernel
theorem dX2_endAlike_20 : decode cX2_endAlike 20 = .ok (.iconst 1, 1) := by decide +kernel
theorem dX2_endAlike_21 : decode cX2_endAlike 21 = .ok (.goto 4, 3) := by decide +kernel
theorem dX2_endAlike_24 : decode cX2_endAlike 24 = .ok (.iconst 0, 1) := by decide +kernel
theorem dX2_endAlike_25 : decode cX2_endAlike 25 = .ok (.istore 4, 2) := by decide +kernel
theorem dX2_endAlike_27 : decode cX2_endAlike 27 = .ok (.iconst 1, 1) := by decide +kernel
theorem dX2_endAlike_28 : decode cX2_endAlike 28 = .ok (.istore 5, 2) := by decide +kernel
theorem dX2_endAlike_30 : decode cX2_endAlike 30 = .ok (.iload 5, 2) := by decide +kernel
theorem dX2_endAlike_32 : decode cX2_endAlike 32 = .ok (.iload_n 3, 1) := by decide +kernel
theorem dX2_endAlike_33 : decode cX2_endAlike 33 = .ok (.if_icmp .gt 90, 3) := by decide +kernel
theorem dX2_endAlike_36 : decode cX2_endAlike 36 = .ok (.iload 4, 2) := by decide +kernel
theorem dX2_endAlike_38 : decode cX2_endAlike 38 = .ok (.ifCond .eq 85, 3) := by decide +kernel
theorem dX2_endAlike_41 : decode cX2_endAlike 41 = .ok (.bipush 8, 2) := by decide +kernel
theorem dX2_endAlike_43 : decode cX2_endAlike 43 = .ok (.iload_n 1, 1) := by decide +kernel
theorem dX2_endAlike_44 : decode cX2_endAlike 44 = .ok (.imul, 1) := by decide +kernel
theorem dX2_endAlike_45 : decode cX2_endAlike 45 = .ok (.aload_n 0, 1) := by decide +kernel
theorem dX2_endAlike_46 : decode cX2_endAlike 46 = .ok (.getfield 22, 3) := by decide +kernel
theorem dX2_endAlike_49 : decode cX2_endAlike 49 = .ok (.iload_n 1, 1) := by decide +kernel
theorem dX2_endAlike_50 : decode cX2_endAlike 50 = .ok (.iaload, 1) := by decide +kernel
theorem dX2_endAlike_51 : decode cX2_endAlike 51 = .ok (.iadd, 1) := by decide +kernel
theorem dX2_endAlike_52 : decode cX2_endAlike 52 = .ok (.iload 5, 2) := by decide +kernel
theorem dX2_endAlike_54 : decode cX2_endAlike 54 = .ok (.isub, 1) := by decide +kernel
theorem dX2_endAlike_55 : decode cX2_endAlike 55 = .ok (.istore 6, 2) := by decide +kernel
theorem dX2_endAlike_57 : decode cX2_endAlike 57 = .ok (.bipush 8, 2) := by decide +kernel
theorem dX2_endAlike_59 : decode cX2_endAlike 59 = .ok (.iload_n 2, 1) := by decide +kernel
theorem dX2_endAlike_60 : decode cX2_endAlike 60 = .ok (.imul, 1) := by decide +kernel
theorem dX2_endAlike_61 : decode cX2_endAlike 61 = .ok (.aload_n 0, 1) := by decide +kernel
theorem dX2_endAlike_62 : decode cX2_endAlike 62 = .ok (.getfield 22, 3) := by decide +kernel
theorem dX2_endAlike_65 : decode cX2_endAlike 65 = .ok (.iload_n 2, 1) := by decide +kernel
theorem dX2_endAlike_66 : decode cX2_endAlike 66 = .ok (.iaload, 1) := by decide +kernel
theorem dX2_endAlike_67 : decode cX2_endAlike 67 = .ok (.iadd, 1) := by decide +kernel
theorem dX2_endAlike_68 : decode cX2_endAlike 68 = .ok (.iload 5, 2) := by decide +kernel
theorem dX2_endAlike_70 : decode cX2_endAlike 70 = .ok (.isub, 1) := by decide +kernel
theorem dX2_endAlike_71 : decode cX2_endAlike 71 = .ok (.istore 7, 2) := by decide +kernel
theorem dX2_endAlike_73 : decode cX2_endAlike 73 = .ok (.aload_n 0, 1) := by decide +kernel
theorem dX2_endAlike_74 : decode cX2_endAlike 74 = .ok (.getfield 25, 3) := by decide +kernel
theorem dX2_endAlike_77 : decode cX2_endAlike 77 = .ok (.iload 6, 2) := by decide +kernel
theorem dX2_endAlike_79 : decode cX2_endAlike 79 = .ok (.iaload, 1) := by decide +kernel
theorem dX2_endAlike_80 : decode cX2_endAlike 80 = .ok (.ifCond .ne 34, 3) := by decide +kernel
theorem dX2_endAlike_83 : decode cX2_endAlike 83 = .ok (.aload_n 0, 1) := by decide +kernel
theorem dX2_endAlike_84 : decode cX2_endAlike 84 = .ok (.getfield 25, 3) := by decide +kernel
theorem dX2_endAlike_87 : decode cX2_endAlike 87 = .ok (.iload 7, 2) := by decide +kernel
theorem dX2_endAlike_89 : decode cX2_endAlike 89 = .ok (.iaload, 1) := by decide +kernel
theorem dX2_endAlike_90 : decode cX2_endAlike 90 = .ok (.ifCond .ne 24, 3) := by decide +kernel
theorem dX2_endAlike_93 : decode cX2_endAlike 93 = .ok (.aload_n 0, 1) := by decide +kernel
theorem dX2_endAlike_94 : decode cX2_endAlike 94 = .ok (.getfield 28, 3) := by decide +kernel
theorem dX2_endAlike_97 : decode cX2_endAlike 97 = .ok (.iload 6, 2) := by decide +kernel
theorem dX2_endAlike_99 : decode cX2_endAlike 99 = .ok (.iaload, 1) := by decide +kernel
theorem dX2_endAlike_100 : decode cX2_endAlike 100 = .ok (.aload_n 0, 1) := by decide +kernel
theorem dX2_endAlike_101 : decode cX2_endAlike 101 = .ok (.getfield 28, 3) := by decide +kernel
theorem dX2_endAlike_104 : decode cX2_endAlike 104 = .ok (.iload 7, 2) := by decide +kernel
theorem dX2_endAlike_106 : decode cX2_endAlike 106 = .ok (.iaload, 1) := by decide +kernel
theorem dX2_endAlike_107 : decode cX2_endAlike 107 = .ok (.if_icmp .ne 7, 3) := by decide +kernel
theorem dX2_endAlike_110 : decode cX2_endAlike 110 = .ok (.iconst 1, 1) := by decide +kernel
theorem dX2_endAlike_111 : decode cX2_endAlike 111 = .ok (.goto 4, 3) := by decide +kernel
theorem dX2_endAlike_114 : decode cX2_endAlike 114 = .ok (.iconst 0, 1) := by decide +kernel
theorem dX2_endAlike_115 : decode cX2_endAlike 115 = .ok (.istore 4, 2) := by decide +kernel
theorem dX2_endAlike_117 : decode cX2_endAlike 117 = .ok (.iinc 5 1, 3) := by decide +kernel
theorem dX2_endAlike_120 : decode cX2_endAlike 120 = .ok (.goto (-90), 3) := by decide +kernel
theorem dX2_endAlike_123 : decode cX2_endAlike 123 = .ok (.iload 4, 2) := by decide +kernel
theorem dX2_endAlike_125 : decode cX2_endAlike 125 = .ok (.ireturn, 1) := by decide +kernel
set_option maxRecDepth 20000 in
theorem ggX2_signed_X2_endAlike : GoodIn wsX2_signed wsX2_endAlike := goodIn_ca (goodIn_r _ [7, 8, 9, 10, 11, 12, 13, 14, 15, 16, 17, 18, 19, 20, 21] rfl (by decide +kernel)) (goodIn_sub (fun _ h => List.mem_cons_of_mem _ (List.mem_append_right _ h)) (by decide +kernel))
set_option maxRecDepth 20000 in
theorem gX2_signed_X2_endAlike : GoodIn wsX2_signed (wsV RX2 86 RX2 yX2_endAlike wsX2_endAlike) := goodIn_app (goodIn_of _ (by decide +kernel)) ggX2_signed_X2_endAlike
theorem dX2_signed_0 : decode cX2_signed 0 = .ok (.iconst 0, 1) := by decide +kernel
theorem dX2_signed_1 : decode cX2_signed 1 = .ok (.istore_n 2, 1) := by decide +kernel
theorem dX2_signed_2 : decode cX2_signed 2 = .ok (.iconst 1, 1) := by decide +kernel
theorem dX2_signed_3 : decode cX2_signed 3 = .ok (.istore_n 3, 1) := by decide +kernel
theorem dX2_signed_4 : decode cX2_signed 4 = .ok (.iload_n 3, 1) := by decide +kernel
theorem dX2_signed_5 : decode cX2_signed 5 = .ok (.iconst 3, 1) := by decide +kernel
theorem dX2_signed_6 : decode cX2_signed 6 = .ok (.if_icmp .gt 62, 3) := by decide +kernel
theorem dX2_signed_9 : decode cX2_signed 9 = .ok (.iconst 0, 1) := by decide +kernel
theorem dX2_signed_10 : decode cX2_signed 10 = .ok (.istore 4, 2) := by decide +kernel
theorem dX2_signed_12 : decode cX2_signed 12 = .ok (.iload 4, 2) := by decide +kernel
theorem dX2_signed_14 : decode cX2_signed 14 = .ok (.aload_n 0, 1) := by decide +kernel
theorem dX2_signed_15 : decode cX2_signed 15 = .ok (.getfield 41, 3) := by decide +kernel
theorem dX2_signed_18 : decode cX2_signed 18 = .ok (.if_icmp .ge 44, 3) := by decide +kernel
theorem dX2_signed_21 : decode cX2_signed 21 = .ok (.iload 4, 2) := by decide +kernel
theorem dX2_signed_23 : decode cX2_signed 23 = .ok (.iload_n 1, 1) := by decide +kernel
theorem dX2_signed_24 : decode cX2_signed 24 = .ok (.if_icmp .eq 32, 3) := by decide +kernel
theorem dX2_signed_27 : decode cX2_signed 27 = .ok (.aload_n 0, 1) := by decide +kernel
theorem dX2_signed_28 : decode cX2_signed 28 = .ok (.getfield 13, 3) := by decide +kernel
theorem dX2_signed_31 : decode cX2_signed 31 = .ok (.iload 4, 2) := by decide +kernel
theorem dX2_signed_33 : decode cX2_signed 33 = .ok (.iaload, 1) := by decide +kernel
theorem dX2_signed_34 : decode cX2_signed 34 = .ok (.aload_n 0, 1) := by decide +kernel
theorem dX2_signed_35 : decode cX2_signed 35 = .ok (.getfield 13, 3) := by decide +kernel
theorem dX2_signed_38 : decode cX2_signed 38 = .ok (.iload_n 1, 1) := by decide +kernel
theorem dX2_signed_39 : decode cX2_signed 39 = .ok (.iaload, 1) := by decide +kernel
theorem dX2_signed_40 : decode cX2_signed 40 = .ok (.if_icmp .ne 16, 3) := by decide +kernel
theorem dX2_signed_43 : decode cX2_signed 43 = .ok (.aload_n 0, 1) := by decide +kernel
theorem dX2_signed_44 : decode cX2_signed 44 = .ok (.iload_n 1, 1) := by decide +kernel
theorem dX2_signed_45 : decode cX2_signed 45 = .ok (.iload 4, 2) := by decide +kernel
theorem dX2_signed_47 : decode cX2_signed 47 = .ok (.iload_n 3, 1) := by decide +kernel
theorem dX2_signed_48 : decode cX2_signed 48 = .ok (.invokevirtual 86, 3) := by decide +kernel
theorem dX2_signed_51 : decode cX2_signed 51 = .ok (.ifCond .eq 5, 3) := by decide +kernel
theorem dX2_signed_54 : decode cX2_signed 54 = .ok (.iload_n 3, 1) := by decide +kernel
theorem dX2_signed_55 : decode cX2_signed 55 = .ok (.istore_n 2, 1) := by decide +kernel
theorem dX2_signed_56 : decode cX2_signed 56 = .ok (.iinc 4 1, 3) := by decide +kernel
theorem dX2_signed_59 : decode cX2_signed 59 = .ok (.goto (-47), 3) := by decide +kernel
theorem dX2_signed_62 : decode cX2_signed 62 = .ok (.iinc 3 1, 3) := by decide +kernel
theorem dX2_signed_65 : decode cX2_signed 65 = .ok (.goto (-61), 3) := by decide +kernel
theorem dX2_signed_68 : decode cX2_signed 68 = .ok (.iload_n 2, 1) := by decide +kernel
theorem dX2_signed_69 : decode cX2_signed 69 = .ok (.ireturn, 1) := by decide +kernel
theorem dX2_stoodBefore_0 : decode cX2_stoodBefore 0 = .ok (.iconst 0, 1) := by decide +kernel
theorem dX2_stoodBefore_1 : decode cX2_stoodBefore 1 = .ok (.istore_n 3, 1) := by decide +kernel
theorem dX2_stoodBefore_2 : decode cX2_stoodBefore 2 = .ok (.iconst 0, 1) := by decide +kernel
theorem dX2_stoodBefore_3 : decode cX2_stoodBefore 3 = .ok (.istore 4, 2) := by decide +kernel
theorem dX2_stoodBefore_5 : decode cX2_stoodBefore 5 = .ok (.iload 4, 2) := by decide +kernel
theorem dX2_stoodBefore_7 : decode cX2_stoodBefore 7 = .ok (.aload_n 0, 1) := by decide +kernel
theorem dX2_stoodBefore_8 : decode cX2_stoodBefore 8 = .ok (.getfield 41, 3) := by decide +kernel
theorem dX2_stoodBefore_11 : decode cX2_stoodBefore 11 = .ok (.if_icmp .ge 133, 3) := by decide +kernel
theorem dX2_stoodBefore_14 : decode cX2_stoodBefore 14 = .ok (.aload_n 0, 1) := by decide +kernel
theorem dX2_stoodBefore_15 : decode cX2_stoodBefore 15 = .ok (.getfield 19, 3) := by decide +kernel
theorem dX2_stoodBefore_18 : decode cX2_stoodBefore 18 = .ok (.iload 4, 2) := by decide +kernel
theorem dX2_stoodBefore_20 : decode cX2_stoodBefore 20 = .ok (.iaload, 1) := by decide +kernel
theorem dX2_stoodBefore_21 : decode cX2_stoodBefore 21 = .ok (.aload_n 0, 1) := by decide +kernel
theorem dX2_stoodBefore_22 : decode cX2_stoodBefore 22 = .ok (.getfield 19, 3) := by decide +kernel
theorem dX2_stoodBefore_25 : decode cX2_stoodBefore 25 = .ok (.iload_n 1, 1) := by decide +kernel
theorem dX2_stoodBefore_26 : decode cX2_stoodBefore 26 = .ok (.iaload, 1) := by decide +kernel
theorem dX2_stoodBefore_27 : decode cX2_stoodBefore 27 = .ok (.if_icmp .ne 111, 3) := by decide +kernel
theorem dX2_stoodBefore_30 : decode cX2_stoodBefore 30 = .ok (.aload_n 0, 1) := by decide +kernel
theorem dX2_stoodBefore_31 : decode cX2_stoodBefore 31 = .ok (.getfield 7, 3) := by decide +kernel
theorem dX2_stoodBefore_34 : decode cX2_stoodBefore 34 = .ok (.iload 4, 2) := by decide +kernel
theorem dX2_stoodBefore_36 : decode cX2_stoodBefore 36 = .ok (.iaload, 1) := by decide +kernel
theorem dX2_stoodBefore_37 : decode cX2_stoodBefore 37 = .ok (.aload_n 0, 1) := by decide +kernel
theorem dX2_stoodBefore_38 : decode cX2_stoodBefore 38 = .ok (.getfield 7, 3) := by decide +kernel
theorem dX2_stoodBefore_41 : decode cX2_stoodBefore 41 = .ok (.iload_n 1, 1) := by decide +kernel
theorem dX2_stoodBefore_42 : decode cX2_stoodBefore 42 = .ok (.iaload, 1) := by decide +kernel
theorem dX2_stoodBefore_43 : decode cX2_stoodBefore 43 = .ok (.if_icmp .le 6, 3) := by decide +kernel
theorem dX2_stoodBefore_46 : decode cX2_stoodBefore 46 = .ok (.goto 92, 3) := by decide +kernel
theorem dX2_stoodBefore_49 : decode cX2_stoodBefore 49 = .ok (.iload 4, 2) := by decide +kernel
theorem dX2_stoodBefore_51 : decode cX2_stoodBefore 51 = .ok (.iload_n 1, 1) := by decide +kernel
theorem dX2_stoodBefore_52 : decode cX2_stoodBefore 52 = .ok (.if_icmp .ne 7, 3) := by decide +kernel
theorem dX2_stoodBefore_55 : decode cX2_stoodBefore 55 = .ok (.iload_n 2, 1) := by decide +kernel
theorem dX2_stoodBefore_56 : decode cX2_stoodBefore 56 = .ok (.goto 10, 3) := by decide +kernel
theorem dX2_stoodBefore_59 : decode cX2_stoodBefore 59 = .ok (.aload_n 0, 1) := by decide +kernel
theorem dX2_stoodBefore_60 : decode cX2_stoodBefore 60 = .ok (.getfield 22, 3) := by decide +kernel
theorem dX2_stoodBefore_63 : decode cX2_stoodBefore 63 = .ok (.iload 4, 2) := by decide +kernel
theorem dX2_stoodBefore_65 : decode cX2_stoodBefore 65 = .ok (.iaload, 1) := by decide +kernel
theorem dX2_stoodBefore_66 : decode cX2_stoodBefore 66 = .ok (.istore 5, 2) := by decide +kernel
theorem dX2_stoodBefore_68 : decode cX2_stoodBefore 68 = .ok (.iconst 0, 1) := by decide +kernel
theorem dX2_stoodBefore_69 : decode cX2_stoodBefore 69 = .ok (.istore 6, 2) := by decide +kernel
theorem dX2_stoodBefore_71 : decode cX2_stoodBefore 71 = .ok (.iload 6, 2) := by decide +kernel
theorem dX2_stoodBefore_73 : decode cX2_stoodBefore 73 = .ok (.iload 5, 2) := by decide +kernel
theorem dX2_stoodBefore_75 : decode cX2_stoodBefore 75 = .ok (.if_icmp .ge 63, 3) := by decide +kernel
theorem dX2_stoodBefore_78 : decode cX2_stoodBefore 78 = .ok (.iload_n 3, 1) := by decide +kernel
theorem dX2_stoodBefore_79 : decode cX2_stoodBefore 79 = .ok (.ifCond .ne 47, 3) := by decide +kernel
theorem dX2_stoodBefore_82 : decode cX2_stoodBefore 82 = .ok (.aload_n 0, 1) := by decide +kernel
theorem dX2_stoodBefore_83 : decode cX2_stoodBefore 83 = .ok (.getfield 25, 3) := by decide +kernel
theorem dX2_stoodBefore_86 : decode cX2_stoodBefore 86 = .ok (.bipush 8, 2) := by decide +kernel
theorem dX2_stoodBefore_88 : decode cX2_stoodBefore 88 = .ok (.iload 4, 2) := by decide +kernel
theorem dX2_stoodBefore_90 : decode cX2_stoodBefore 90 = .ok (.imul, 1) := by decide +kernel
theorem dX2_stoodBefore_91 : decode cX2_stoodBefore 91 = .ok (.iload 6, 2) := by decide +kernel
theorem dX2_stoodBefore_93 : decode cX2_stoodBefore 93 = .ok (.iadd, 1) := by decide +kernel
theorem dX2_stoodBefore_94 : decode cX2_stoodBefore 94 = .ok (.iaload, 1) := by decide +kernel
theorem dX2_stoodBefore_95 : decode cX2_stoodBefore 95 = .ok (.iconst 1, 1) := by decide +kernel
theorem dX2_stoodBefore_96 : decode cX2_stoodBefore 96 = .ok (.if_icmp .ne 34, 3) := by decide +kernel
theorem dX2_stoodBefore_99 : decode cX2_stoodBefore 99 = .ok (.aload_n 0, 1) := by decide +kernel
theorem dX2_stoodBefore_100 : decode cX2_stoodBefore 100 = .ok (.getfield 28, 3) := by decide +kernel
theorem dX2_stoodBefore_103 : decode cX2_stoodBefore 103 = .ok (.bipush 8, 2) := by decide +kernel
theorem dX2_stoodBefore_105 : decode cX2_stoodBefore 105 = .ok (.iload 4, 2) := by decide +kernel
theorem dX2_stoodBefore_107 : decode cX2_stoodBefore 107 = .ok (.imul, 1) := by decide +kernel
theorem dX2_stoodBefore_108 : decode cX2_stoodBefore 108 = .ok (.iload 6, 2) := by decide +kernel
theorem dX2_stoodBefore_110 : decode cX2_stoodBefore 110 = .ok (.iadd, 1) := by decide +kernel
theorem dX2_stoodBefore_111 : decode cX2_stoodBefore 111 = .ok (.iaload, 1) := by decide +kernel
theorem dX2_stoodBefore_112 : decode cX2_stoodBefore 112 = .ok (.aload_n 0, 1) := by decide +kernel
theorem dX2_stoodBefore_113 : decode cX2_stoodBefore 113 = .ok (.getfield 28, 3) := by decide +kernel
theorem dX2_stoodBefore_116 : decode cX2_stoodBefore 116 = .ok (.bipush 8, 2) := by decide +kernel
theorem dX2_stoodBefore_118 : decode cX2_stoodBefore 118 = .ok (.iload_n 1, 1) := by decide +kernel
theorem dX2_stoodBefore_119 : decode cX2_stoodBefore 119 = .ok (.imul, 1) := by decide +kernel
theorem dX2_stoodBefore_120 : decode cX2_stoodBefore 120 = .ok (.iload_n 2, 1) := by decide +kernel
theorem dX2_stoodBefore_121 : decode cX2_stoodBefore 121 = .ok (.iadd, 1) := by decide +kernel
theorem dX2_stoodBefore_122 : decode cX2_stoodBefore 122 = .ok (.iaload, 1) := by decide +kernel
theorem dX2_stoodBefore_123 : decode cX2_stoodBefore 123 = .ok (.if_icmp .ne 7, 3) := by decide +kernel
theorem dX2_stoodBefore_126 : decode cX2_stoodBefore 126 = .ok (.iconst 1, 1) := by decide +kernel
theorem dX2_stoodBefore_127 : decode cX2_stoodBefore 127 = .ok (.goto 4, 3) := by decide +kernel
theorem dX2_stoodBefore_130 : decode cX2_stoodBefore 130 = .ok (.iconst 0, 1) := by decide +kernel
theorem dX2_stoodBefore_131 : decode cX2_stoodBefore 131 = .ok (.istore_n 3, 1) := by decide +kernel
theorem dX2_stoodBefore_132 : decode cX2_stoodBefore 132 = .ok (.iinc 6 1, 3) := by decide +kernel
theorem dX2_stoodBefore_135 : decode cX2_stoodBefore 135 = .ok (.goto (-64), 3) := by decide +kernel
theorem dX2_stoodBefore_138 : decode cX2_stoodBefore 138 = .ok (.iinc 4 1, 3) := by decide +kernel
theorem dX2_stoodBefore_141 : decode cX2_stoodBefore 141 = .ok (.goto (-136), 3) := by decide +kernel
theorem dX2_stoodBefore_144 : decode cX2_stoodBefore 144 = .ok (.iload_n 3, 1) := by decide +kernel
theorem dX2_stoodBefore_145 : decode cX2_stoodBefore 145 = .ok (.ireturn, 1) := by decide +kernel
set_option maxRecDepth 20000 in
theorem ggX2_kindOf_X2_signed : GoodIn wsX2_kindOf wsX2_signed := goodIn_ca (goodIn_r _ [9, 10, 11, 12, 13, 14, 8, 15, 2, 1, 16, 30, 31, 32, 33, 34, 35, 36, 37, 38, 39, 40] rfl (by decide +kernel)) (goodIn_sub (fun _ h => List.mem_cons_of_mem _ (List.mem_append_right _ h)) (by decide +kernel))
set_option maxRecDepth 20000 in
theorem gX2_kindOf_X2_signed : GoodIn wsX2_kindOf (wsV RX2 89 RX2 yX2_signed wsX2_signed) := goodIn_app (goodIn_of _ (by decide +kernel)) ggX2_kindOf_X2_signed
set_option maxRecDepth 20000 in
theorem ggX2_kindOf_X2_parentOf : GoodIn wsX2_kindOf wsX2_parentOf := goodIn_ca (goodIn_r _ [20, 4, 21, 22, 23, 8, 24, 10, 25, 30, 31, 32, 33, 34, 35, 36, 37, 38, 39, 40] rfl (by decide +kernel)) (goodIn_sub (fun _ h => List.mem_cons_of_mem _ (List.mem_append_right _ h)) (by decide +kernel))
set_option maxRecDepth 20000 in
theorem gX2_kindOf_X2_parentOf : GoodIn wsX2_kindOf (wsV RX2 66 RX2 yX2_parentOf wsX2_parentOf) := goodIn_app (goodIn_of _ (by decide +kernel)) ggX2_kindOf_X2_parentOf
set_option maxRecDepth 20000 in
theorem ggX2_kindOf_X2_stoodBefore : GoodIn wsX2_kindOf wsX2_stoodBefore := goodIn_ca (goodIn_r _ [29, 10, 4, 25, 2, 1, 16, 30, 31, 32, 33, 34, 35, 36, 37, 38, 39, 40] rfl (by decide +kernel)) (goodIn_sub (fun _ h => List.mem_cons_of_mem _ (List.mem_append_right _ h)) (by decide +kernel))
set_option maxRecDepth 20000 in
theorem gX2_kindOf_X2_stoodBefore : GoodIn wsX2_kindOf (wsV RX2 92 RX2 yX2_stoodBefore wsX2_stoodBefore) := goodIn_app (goodIn_of _ (by decide +kernel)) ggX2_kindOf_X2_stoodBefore
theorem dX2_kindOf_0 : decode cX2_kindOf 0 = .ok (.bipush 8, 2) := by decide +kernel
theorem dX2_kindOf_2 : decode cX2_kindOf 2 = .ok (.iload_n 1, 1) := by decide +kernel
theorem dX2_kindOf_3 : decode cX2_kindOf 3 = .ok (.imul, 1) := by decide +kernel
theorem dX2_kindOf_4 : decode cX2_kindOf 4 = .ok (.iload_n 2, 1) := by decide +kernel
theorem dX2_kindOf_5 : decode cX2_kindOf 5 = .ok (.iadd, 1) := by decide +kernel
theorem dX2_kindOf_6 : decode cX2_kindOf 6 = .ok (.istore_n 3, 1) := by decide +kernel
theorem dX2_kindOf_7 : decode cX2_kindOf 7 = .ok (.aload_n 0, 1) := by decide +kernel
theorem dX2_kindOf_8 : decode cX2_kindOf 8 = .ok (.getfield 25, 3) := by decide +kernel
theorem dX2_kindOf_11 : decode cX2_kindOf 11 = .ok (.iload_n 3, 1) := by decide +kernel
theorem dX2_kindOf_12 : decode cX2_kindOf 12 = .ok (.iaload, 1) := by decide +kernel
theorem dX2_kindOf_13 : decode cX2_kindOf 13 = .ok (.ifCond .ne 27, 3) := by decide +kernel
theorem dX2_kindOf_16 : decode cX2_kindOf 16 = .ok (.iload_n 2, 1) := by decide +kernel
theorem dX2_kindOf_17 : decode cX2_kindOf 17 = .ok (.aload_n 0, 1) := by decide +kernel
theorem dX2_kindOf_18 : decode cX2_kindOf 18 = .ok (.getfield 22, 3) := by decide +kernel
theorem dX2_kindOf_21 : decode cX2_kindOf 21 = .ok (.iload_n 1, 1) := by decide +kernel
theorem dX2_kindOf_22 : decode cX2_kindOf 22 = .ok (.iaload, 1) := by decide +kernel
theorem dX2_kindOf_23 : decode cX2_kindOf 23 = .ok (.aload_n 0, 1) := by decide +kernel
theorem dX2_kindOf_24 : decode cX2_kindOf 24 = .ok (.iload_n 1, 1) := by decide +kernel
theorem dX2_kindOf_25 : decode cX2_kindOf 25 = .ok (.invokevirtual 89, 3) := by decide +kernel
theorem dX2_kindOf_28 : decode cX2_kindOf 28 = .ok (.isub, 1) := by decide +kernel
theorem dX2_kindOf_29 : decode cX2_kindOf 29 = .ok (.if_icmp .lt 8, 3) := by decide +kernel
theorem dX2_kindOf_32 : decode cX2_kindOf 32 = .ok (.bipush 115, 2) := by decide +kernel
theorem dX2_kindOf_34 : decode cX2_kindOf 34 = .ok (.goto 5, 3) := by decide +kernel
theorem dX2_kindOf_37 : decode cX2_kindOf 37 = .ok (.bipush 110, 2) := by decide +kernel
theorem dX2_kindOf_39 : decode cX2_kindOf 39 = .ok (.ireturn, 1) := by decide +kernel
theorem dX2_kindOf_40 : decode cX2_kindOf 40 = .ok (.aload_n 0, 1) := by decide +kernel
theorem dX2_kindOf_41 : decode cX2_kindOf 41 = .ok (.getfield 31, 3) := by decide +kernel
theorem dX2_kindOf_44 : decode cX2_kindOf 44 = .ok (.iload_n 3, 1) := by decide +kernel
theorem dX2_kindOf_45 : decode cX2_kindOf 45 = .ok (.iaload, 1) := by decide +kernel
theorem dX2_kindOf_46 : decode cX2_kindOf 46 = .ok (.iconst (-1), 1) := by decide +kernel
theorem dX2_kindOf_47 : decode cX2_kindOf 47 = .ok (.if_icmp .eq 6, 3) := by decide +kernel
theorem dX2_kindOf_50 : decode cX2_kindOf 50 = .ok (.bipush 113, 2) := by decide +kernel
theorem dX2_kindOf_52 : decode cX2_kindOf 52 = .ok (.ireturn, 1) := by decide +kernel
theorem dX2_kindOf_53 : decode cX2_kindOf 53 = .ok (.aload_n 0, 1) := by decide +kernel
theorem dX2_kindOf_54 : decode cX2_kindOf 54 = .ok (.getfield 25, 3) := by decide +kernel
theorem dX2_kindOf_57 : decode cX2_kindOf 57 = .ok (.iload_n 3, 1) := by decide +kernel
theorem dX2_kindOf_58 : decode cX2_kindOf 58 = .ok (.iaload, 1) := by decide +kernel
theorem dX2_kindOf_59 : decode cX2_kindOf 59 = .ok (.iconst 1, 1) := by decide +kernel
theorem dX2_kindOf_60 : decode cX2_kindOf 60 = .ok (.if_icmp .gt 21, 3) := by decide +kernel
theorem dX2_kindOf_63 : decode cX2_kindOf 63 = .ok (.aload_n 0, 1) := by decide +kernel
theorem dX2_kindOf_64 : decode cX2_kindOf 64 = .ok (.getfield 19, 3) := by decide +kernel
theorem dX2_kindOf_67 : decode cX2_kindOf 67 = .ok (.iload_n 1, 1) := by decide +kernel
theorem dX2_kindOf_68 : decode cX2_kindOf 68 = .ok (.iaload, 1) := by decide +kernel
theorem dX2_kindOf_69 : decode cX2_kindOf 69 = .ok (.ifCond .eq 12, 3) := by decide +kernel
theorem dX2_kindOf_72 : decode cX2_kindOf 72 = .ok (.aload_n 0, 1) := by decide +kernel
theorem dX2_kindOf_73 : decode cX2_kindOf 73 = .ok (.iload_n 1, 1) := by decide +kernel
theorem dX2_kindOf_74 : decode cX2_kindOf 74 = .ok (.invokevirtual 66, 3) := by decide +kernel
theorem dX2_kindOf_77 : decode cX2_kindOf 77 = .ok (.iconst (-1), 1) := by decide +kernel
theorem dX2_kindOf_78 : decode cX2_kindOf 78 = .ok (.if_icmp .eq 6, 3) := by decide +kernel
theorem dX2_kindOf_81 : decode cX2_kindOf 81 = .ok (.bipush 120, 2) := by decide +kernel
theorem dX2_kindOf_83 : decode cX2_kindOf 83 = .ok (.ireturn, 1) := by decide +kernel
theorem dX2_kindOf_84 : decode cX2_kindOf 84 = .ok (.aload_n 0, 1) := by decide +kernel
theorem dX2_kindOf_85 : decode cX2_kindOf 85 = .ok (.iload_n 1, 1) := by decide +kernel
theorem dX2_kindOf_86 : decode cX2_kindOf 86 = .ok (.iload_n 2, 1) := by decide +kernel
theorem dX2_kindOf_87 : decode cX2_kindOf 87 = .ok (.invokevirtual 92, 3) := by decide +kernel
theorem dX2_kindOf_90 : decode cX2_kindOf 90 = .ok (.ifCond .eq 8, 3) := by decide +kernel
theorem dX2_kindOf_93 : decode cX2_kindOf 93 = .ok (.bipush 100, 2) := by decide +kernel
theorem dX2_kindOf_95 : decode cX2_kindOf 95 = .ok (.goto 5, 3) := by decide +kernel
theorem dX2_kindOf_98 : decode cX2_kindOf 98 = .ok (.bipush 114, 2) := by decide +kernel
theorem dX2_kindOf_100 : decode cX2_kindOf 100 = .ok (.ireturn, 1) := by decide +kernel
set_option maxRecDepth 20000 in
theorem ggX2_isTalk_X2_kindOf : GoodIn wsX2_isTalk wsX2_kindOf := goodIn_ca (goodIn_r _ [5, 6, 7, 8, 9, 10, 11, 12, 4, 13, 14, 15, 16, 17, 18, 19, 20, 21, 22, 23, 24, 25, 26, 27, 28, 29, 30, 31, 32, 33, 34, 35, 36, 37, 38, 39, 40, 41, 42, 43, 44] rfl (by decide +kernel)) (goodIn_sub (fun _ h => List.mem_cons_of_mem _ (List.mem_append_right _ h)) (by decide +kernel))
set_option maxRecDepth 20000 in
theorem gX2_isTalk_X2_kindOf : GoodIn wsX2_isTalk (wsV RX2 95 RX2 yX2_kindOf wsX2_kindOf) := goodIn_app (goodIn_of _ (by decide +kernel)) ggX2_isTalk_X2_kindOf
theorem dX2_isTalk_0 : decode cX2_isTalk 0 = .ok (.aload_n 0, 1) := by decide +kernel
theorem dX2_isTalk_1 : decode cX2_isTalk 1 = .ok (.iload_n 1, 1) := by decide +kernel
theorem dX2_isTalk_2 : decode cX2_isTalk 2 = .ok (.iload_n 2, 1) := by decide +kernel
theorem dX2_isTalk_3 : decode cX2_isTalk 3 = .ok (.invokevirtual 95, 3) := by decide +kernel
theorem dX2_isTalk_6 : decode cX2_isTalk 6 = .ok (.bipush 110, 2) := by decide +kernel
theorem dX2_isTalk_8 : decode cX2_isTalk 8 = .ok (.if_icmp .eq 14, 3) := by decide +kernel
theorem dX2_isTalk_11 : decode cX2_isTalk 11 = .ok (.aload_n 0, 1) := by decide +kernel
theorem dX2_isTalk_12 : decode cX2_isTalk 12 = .ok (.iload_n 1, 1) := by decide +kernel
theorem dX2_isTalk_13 : decode cX2_isTalk 13 = .ok (.iload_n 2, 1) := by decide +kernel
theorem dX2_isTalk_14 : decode cX2_isTalk 14 = .ok (.invokevirtual 95, 3) := by decide +kernel
theorem dX2_isTalk_17 : decode cX2_isTalk 17 = .ok (.bipush 114, 2) := by decide +kernel
theorem dX2_isTalk_19 : decode cX2_isTalk 19 = .ok (.if_icmp .ne 7, 3) := by decide +kernel
theorem dX2_isTalk_22 : decode cX2_isTalk 22 = .ok (.iconst 1, 1) := by decide +kernel
theorem dX2_isTalk_23 : decode cX2_isTalk 23 = .ok (.goto 4, 3) := by decide +kernel
theorem dX2_isTalk_26 : decode cX2_isTalk 26 = .ok (.iconst 0, 1) := by decide +kernel
theorem dX2_isTalk_27 : decode cX2_isTalk 27 = .ok (.ireturn, 1) := by decide +kernel
set_option maxRecDepth 20000 in
theorem ggX2_kind_X2_isLine : GoodIn wsX2_kind wsX2_isLine := goodIn_ca (goodIn_r _ [6, 7, 8, 9, 10, 5, 11, 12, 13, 14, 15, 59, 60, 61, 62, 63, 64, 65, 66, 67, 68, 69] rfl (by decide +kernel)) (goodIn_sub (fun _ h => List.mem_cons_of_mem _ (List.mem_append_right _ h)) (by decide +kernel))
set_option maxRecDepth 20000 in
theorem gX2_kind_X2_isLine : GoodIn wsX2_kind (wsV RX2 62 RX2 yX2_isLine wsX2_isLine) := goodIn_app (goodIn_of _ (by decide +kernel)) ggX2_kind_X2_isLine
set_option maxRecDepth 20000 in
theorem ggX2_kind_X2_alignsAll : GoodIn wsX2_kind wsX2_alignsAll := goodIn_ca (goodIn_r _ [19, 12, 20, 21, 22, 5, 23, 7, 24, 25, 26, 27, 28, 29, 30, 31, 32, 33, 34, 35, 36, 37, 38, 39, 40, 41, 59, 60, 61, 62, 63, 64, 65, 66, 67, 68, 69] rfl (by decide +kernel)) (goodIn_sub (fun _ h => List.mem_cons_of_mem _ (List.mem_append_right _ h)) (by decide +kernel))
set_option maxRecDepth 20000 in
theorem gX2_kind_X2_alignsAll : GoodIn wsX2_kind (wsV RX2 79 RX2 yX2_alignsAll wsX2_alignsAll) := goodIn_app (goodIn_of _ (by decide +kernel)) ggX2_kind_X2_alignsAll
set_option maxRecDepth 20000 in
theorem ggX2_kind_X2_kindOf : GoodIn wsX2_kind wsX2_kindOf := goodIn_ca (goodIn_r _ [45, 40, 7, 25, 30, 46, 47, 48, 5, 49, 12, 50, 51, 52, 53, 54, 41, 26, 27, 28, 29, 31, 32, 33, 34, 35, 55, 56, 57, 58, 59, 60, 61, 62, 63, 64, 65, 66, 67, 68, 69] rfl (by decide +kernel)) (goodIn_sub (fun _ h => List.mem_cons_of_mem _ (List.mem_append_right _ h)) (by decide +kernel))
set_option maxRecDepth 20000 in
theorem gX2_kind_X2_kindOf : GoodIn wsX2_kind (wsV RX2 95 RX2 yX2_kindOf wsX2_kindOf) := goodIn_app (goodIn_of _ (by decide +kernel)) ggX2_kind_X2_kindOf
theorem dX2_kind_0 : decode cX2_kind 0 = .ok (.aload_n 0, 1) := by decide +kernel
theorem dX2_kind_1 : decode cX2_kind 1 = .ok (.aload_n 0, 1) := by decide +kernel
theorem dX2_kind_2 : decode cX2_kind 2 = .ok (.iload_n 1, 1) := by decide +kernel
theorem dX2_kind_3 : decode cX2_kind 3 = .ok (.iload_n 2, 1) := by decide +kernel
theorem dX2_kind_4 : decode cX2_kind 4 = .ok (.invokevirtual 62, 3) := by decide +kernel
theorem dX2_kind_7 : decode cX2_kind 7 = .ok (.ifCond .eq 7, 3) := by decide +kernel
theorem dX2_kind_10 : decode cX2_kind 10 = .ok (.iconst 0, 1) := by decide +kernel
theorem dX2_kind_11 : decode cX2_kind 11 = .ok (.goto 4, 3) := by decide +kernel
theorem dX2_kind_14 : decode cX2_kind 14 = .ok (.iconst 1, 1) := by decide +kernel
theorem dX2_kind_15 : decode cX2_kind 15 = .ok (.putfield 37, 3) := by decide +kernel
theorem dX2_kind_18 : decode cX2_kind 18 = .ok (.aload_n 0, 1) := by decide +kernel
theorem dX2_kind_19 : decode cX2_kind 19 = .ok (.getfield 37, 3) := by decide +kernel
theorem dX2_kind_22 : decode cX2_kind 22 = .ok (.ifCond .le 6, 3) := by decide +kernel
theorem dX2_kind_25 : decode cX2_kind 25 = .ok (.bipush 97, 2) := by decide +kernel
theorem dX2_kind_27 : decode cX2_kind 27 = .ok (.ireturn, 1) := by decide +kernel
theorem dX2_kind_28 : decode cX2_kind 28 = .ok (.aload_n 0, 1) := by decide +kernel
theorem dX2_kind_29 : decode cX2_kind 29 = .ok (.invokevirtual 79, 3) := by decide +kernel
theorem dX2_kind_32 : decode cX2_kind 32 = .ok (.aload_n 0, 1) := by decide +kernel
theorem dX2_kind_33 : decode cX2_kind 33 = .ok (.iload_n 1, 1) := by decide +kernel
theorem dX2_kind_34 : decode cX2_kind 34 = .ok (.iload_n 2, 1) := by decide +kernel
theorem dX2_kind_35 : decode cX2_kind 35 = .ok (.invokevirtual 95, 3) := by decide +kernel
theorem dX2_kind_38 : decode cX2_kind 38 = .ok (.ireturn, 1) := by decide +kernel
set_option maxRecDepth 20000 in
theorem ggX2_signature_X2_isMail : GoodIn wsX2_signature wsX2_isMail := goodIn_r _ [5, 6, 7, 8, 4, 9, 31, 32, 33, 34, 35, 36, 37, 38, 39, 40, 41] rfl (by decide +kernel)
set_option maxRecDepth 20000 in
theorem gX2_signature_X2_isMail : GoodIn wsX2_signature (wsV RX2 48 RX2 yX2_isMail wsX2_isMail) := goodIn_app (goodIn_of _ (by decide +kernel)) ggX2_signature_X2_isMail
set_option maxRecDepth 20000 in
theorem ggX2_signature_X2_signed : GoodIn wsX2_signature wsX2_signed := goodIn_ca (goodIn_r _ [13, 6, 14, 15, 16, 17, 4, 18, 19, 20, 21, 31, 32, 33, 34, 35, 36, 37, 38, 39, 40, 41] rfl (by decide +kernel)) (goodIn_sub (fun _ h => List.mem_cons_of_mem _ (List.mem_append_right _ h)) (by decide +kernel))
set_option maxRecDepth 20000 in
theorem gX2_signature_X2_signed : GoodIn wsX2_signature (wsV RX2 89 RX2 yX2_signed wsX2_signed) := goodIn_app (goodIn_of _ (by decide +kernel)) ggX2_signature_X2_signed
set_option maxRecDepth 20000 in
theorem ggX2_signature_X2_tells : GoodIn wsX2_signature wsX2_tells := goodIn_r _ [25, 26, 31, 32, 33, 34, 35, 36, 37, 38, 39, 40, 41] rfl (by decide +kernel)
set_option maxRecDepth 20000 in
theorem gX2_signature_X2_tells : GoodIn wsX2_signature (wsV RX2 59 RX2 yX2_tells wsX2_tells) := goodIn_app (goodIn_of _ (by decide +kernel)) ggX2_signature_X2_tells
set_option maxRecDepth 20000 in
theorem ggX2_signature_X2_fails : GoodIn wsX2_signature wsX2_fails := goodIn_r _ [30, 26, 31, 32, 33, 34, 35, 36, 37, 38, 39, 40, 41] rfl (by decide +kernel)
set_option maxRecDepth 20000 in
theorem gX2_signature_X2_fails : GoodIn wsX2_signature (wsV RX2 56 RX2 yX2_fails wsX2_fails) := goodIn_app (goodIn_of _ (by decide +kernel)) ggX2_signature_X2_fails
theorem dX2_signature_0 : decode cX2_signature 0 = .ok (.aload_n 0, 1) := by decide +kernel
theorem dX2_signature_1 : decode cX2_signature 1 = .ok (.iload_n 1, 1) := by decide +kernel
theorem dX2_signature_2 : decode cX2_signature 2 = .ok (.invokevirtual 48, 3) := by decide +kernel
theorem dX2_signature_5 : decode cX2_signature 5 = .ok (.ifCond .eq 15, 3) := by decide +kernel
theorem dX2_signature_8 : decode cX2_signature 8 = .ok (.aload_n 0, 1) := by decide +kernel
theorem dX2_signature_9 : decode cX2_signature 9 = .ok (.aload_n 0, 1) := by decide +kernel
theorem dX2_signature_10 : decode cX2_signature 10 = .ok (.iload_n 1, 1) := by decide +kernel
theorem dX2_signature_11 : decode cX2_signature 11 = .ok (.invokevirtual 89, 3) := by decide +kernel
theorem dX2_signature_14 : decode cX2_signature 14 = .ok (.invokevirtual 59, 3) := by decide +kernel
theorem dX2_signature_17 : decode cX2_signature 17 = .ok (.goto 8, 3) := by decide +kernel
theorem dX2_signature_20 : decode cX2_signature 20 = .ok (.aload_n 0, 1) := by decide +kernel
theorem dX2_signature_21 : decode cX2_signature 21 = .ok (.iconst 1, 1) := by decide +kernel
theorem dX2_signature_22 : decode cX2_signature 22 = .ok (.invokevirtual 56, 3) := by decide +kernel
theorem dX2_signature_25 : decode cX2_signature 25 = .ok (.ireturn, 1) := by decide +kernel
set_option maxRecDepth 20000 in
theorem ggX2_answersOf_X2_kindOf : GoodIn wsX2_answersOf wsX2_kindOf := goodIn_ca (goodIn_r _ [5, 6, 7, 8, 9, 10, 11, 12, 4, 13, 14, 15, 16, 17, 18, 19, 20, 21, 22, 23, 24, 25, 26, 27, 28, 29, 30, 31, 32, 33, 38, 39, 40, 41, 42, 43, 44, 45, 46, 47, 48] rfl (by decide +kernel)) (goodIn_sub (fun _ h => List.mem_cons_of_mem _ (List.mem_append_right _ h)) (by decide +kernel))
set_option maxRecDepth 20000 in
theorem gX2_answersOf_X2_kindOf : GoodIn wsX2_answersOf (wsV RX2 95 RX2 yX2_kindOf wsX2_kindOf) := goodIn_app (goodIn_of _ (by decide +kernel)) ggX2_answersOf_X2_kindOf
set_option maxRecDepth 20000 in
theorem ggX2_answersOf_X2_origin : GoodIn wsX2_answersOf wsX2_origin := goodIn_ca (goodIn_r _ [37, 8, 21, 22, 23, 4, 24, 9, 25, 26, 27, 28, 14, 29, 38, 39, 40, 41, 42, 43, 44, 45, 46, 47, 48] rfl (by decide +kernel)) (goodIn_sub (fun _ h => List.mem_cons_of_mem _ (List.mem_append_right _ h)) (by decide +kernel))
set_option maxRecDepth 20000 in
theorem gX2_answersOf_X2_origin : GoodIn wsX2_answersOf (wsV RX2 82 RX2 yX2_origin wsX2_origin) := goodIn_app (goodIn_of _ (by decide +kernel)) ggX2_answersOf_X2_origin
theorem dX2_answersOf_0 : decode cX2_answersOf 0 = .ok (.iconst (-1), 1) := by decide +kernel
theorem dX2_answersOf_1 : decode cX2_answersOf 1 = .ok (.istore_n 3, 1) := by decide +kernel
theorem dX2_answersOf_2 : decode cX2_answersOf 2 = .ok (.iconst 0, 1) := by decide +kernel
theorem dX2_answersOf_3 : decode cX2_answersOf 3 = .ok (.istore 4, 2) := by decide +kernel
theorem dX2_answersOf_5 : decode cX2_answersOf 5 = .ok (.iload 4, 2) := by decide +kernel
theorem dX2_answersOf_7 : decode cX2_answersOf 7 = .ok (.iload_n 2, 1) := by decide +kernel
theorem dX2_answersOf_8 : decode cX2_answersOf 8 = .ok (.if_icmp .ge 33, 3) := by decide +kernel
theorem dX2_answersOf_11 : decode cX2_answersOf 11 = .ok (.aload_n 0, 1) := by decide +kernel
theorem dX2_answersOf_12 : decode cX2_answersOf 12 = .ok (.iload_n 1, 1) := by decide +kernel
theorem dX2_answersOf_13 : decode cX2_answersOf 13 = .ok (.iload 4, 2) := by decide +kernel
theorem dX2_answersOf_15 : decode cX2_answersOf 15 = .ok (.invokevirtual 95, 3) := by decide +kernel
theorem dX2_answersOf_18 : decode cX2_answersOf 18 = .ok (.bipush 113, 2) := by decide +kernel
theorem dX2_answersOf_20 : decode cX2_answersOf 20 = .ok (.if_icmp .ne 13, 3) := by decide +kernel
theorem dX2_answersOf_23 : decode cX2_answersOf 23 = .ok (.aload_n 0, 1) := by decide +kernel
theorem dX2_answersOf_24 : decode cX2_answersOf 24 = .ok (.iload_n 1, 1) := by decide +kernel
theorem dX2_answersOf_25 : decode cX2_answersOf 25 = .ok (.iload 4, 2) := by decide +kernel
theorem dX2_answersOf_27 : decode cX2_answersOf 27 = .ok (.invokevirtual 82, 3) := by decide +kernel
theorem dX2_answersOf_30 : decode cX2_answersOf 30 = .ok (.goto 4, 3) := by decide +kernel
theorem dX2_answersOf_33 : decode cX2_answersOf 33 = .ok (.iload_n 3, 1) := by decide +kernel
theorem dX2_answersOf_34 : decode cX2_answersOf 34 = .ok (.istore_n 3, 1) := by decide +kernel
theorem dX2_answersOf_35 : decode cX2_answersOf 35 = .ok (.iinc 4 1, 3) := by decide +kernel
theorem dX2_answersOf_38 : decode cX2_answersOf 38 = .ok (.goto (-33), 3) := by decide +kernel
theorem dX2_answersOf_41 : decode cX2_answersOf 41 = .ok (.iload_n 3, 1) := by decide +kernel
theorem dX2_answersOf_42 : decode cX2_answersOf 42 = .ok (.ireturn, 1) := by decide +kernel
set_option maxRecDepth 20000 in
theorem ggX2_asksAnswered_X2_isLine : GoodIn wsX2_asksAnswered wsX2_isLine := goodIn_ca (goodIn_r _ [5, 6, 7, 8, 9, 4, 10, 11, 12, 13, 14, 75, 76, 77, 78, 79, 80, 81, 82, 83, 84, 85] rfl (by decide +kernel)) (goodIn_sub (fun _ h => List.mem_cons_of_mem _ (List.mem_append_right _ h)) (by decide +kernel))
set_option maxRecDepth 20000 in
theorem gX2_asksAnswered_X2_isLine : GoodIn wsX2_asksAnswered (wsV RX2 62 RX2 yX2_isLine wsX2_isLine) := goodIn_app (goodIn_of _ (by decide +kernel)) ggX2_asksAnswered_X2_isLine
set_option maxRecDepth 20000 in
theorem ggX2_asksAnswered_X2_fails : GoodIn wsX2_asksAnswered wsX2_fails := goodIn_r _ [18, 19, 75, 76, 77, 78, 79, 80, 81, 82, 83, 84, 85] rfl (by decide +kernel)
set_option maxRecDepth 20000 in
theorem gX2_asksAnswered_X2_fails : GoodIn wsX2_asksAnswered (wsV RX2 56 RX2 yX2_fails wsX2_fails) := goodIn_app (goodIn_of _ (by decide +kernel)) ggX2_asksAnswered_X2_fails
set_option maxRecDepth 20000 in
theorem ggX2_asksAnswered_X2_alignsAll : GoodIn wsX2_asksAnswered wsX2_alignsAll := goodIn_ca (goodIn_r _ [23, 11, 24, 25, 26, 4, 27, 6, 28, 29, 30, 31, 32, 33, 34, 35, 36, 37, 38, 39, 40, 41, 42, 43, 44, 45, 75, 76, 77, 78, 79, 80, 81, 82, 83, 84, 85] rfl (by decide +kernel)) (goodIn_sub (fun _ h => List.mem_cons_of_mem _ (List.mem_append_right _ h)) (by decide +kernel))
set_option maxRecDepth 20000 in
theorem gX2_asksAnswered_X2_alignsAll : GoodIn wsX2_asksAnswered (wsV RX2 79 RX2 yX2_alignsAll wsX2_alignsAll) := goodIn_app (goodIn_of _ (by decide +kernel)) ggX2_asksAnswered_X2_alignsAll
set_option maxRecDepth 20000 in
theorem ggX2_asksAnswered_X2_kindOf : GoodIn wsX2_asksAnswered wsX2_kindOf := goodIn_ca (goodIn_r _ [49, 44, 6, 29, 34, 50, 51, 52, 4, 53, 11, 54, 55, 56, 57, 58, 45, 30, 31, 32, 33, 35, 36, 37, 38, 39, 59, 60, 61, 62, 75, 76, 77, 78, 79, 80, 81, 82, 83, 84, 85] rfl (by decide +kernel)) (goodIn_sub (fun _ h => List.mem_cons_of_mem _ (List.mem_append_right _ h)) (by decide +kernel))
set_option maxRecDepth 20000 in
theorem gX2_asksAnswered_X2_kindOf : GoodIn wsX2_asksAnswered (wsV RX2 95 RX2 yX2_kindOf wsX2_kindOf) := goodIn_app (goodIn_of _ (by decide +kernel)) ggX2_asksAnswered_X2_kindOf
set_option maxRecDepth 20000 in
theorem ggX2_asksAnswered_X2_answersOf : GoodIn wsX2_asksAnswered wsX2_answersOf := goodIn_ca (goodIn_r _ [66, 46, 47, 48, 4, 49, 44, 6, 29, 34, 50, 51, 52, 53, 11, 54, 55, 56, 57, 58, 45, 30, 31, 32, 33, 35, 36, 37, 38, 39, 59, 60, 61, 62, 67, 68, 69, 70, 75, 76, 77, 78, 79, 80, 81, 82, 83, 84, 85] rfl (by decide +kernel)) (goodIn_sub (fun _ h => List.mem_cons_of_mem _ (List.mem_append_right _ h)) (by decide +kernel))
set_option maxRecDepth 20000 in
theorem gX2_asksAnswered_X2_answersOf : GoodIn wsX2_asksAnswered (wsV RX2 99 RX2 yX2_answersOf wsX2_answersOf) := goodIn_app (goodIn_of _ (by decide +kernel)) ggX2_asksAnswered_X2_answersOf
set_option maxRecDepth 20000 in
theorem ggX2_asksAnswered_X2_tells : GoodIn wsX2_asksAnswered wsX2_tells := goodIn_r _ [74, 19, 75, 76, 77, 78, 79, 80, 81, 82, 83, 84, 85] rfl (by decide +kernel)
set_option maxRecDepth 20000 in
theorem gX2_asksAnswered_X2_tells : GoodIn wsX2_asksAnswered (wsV RX2 59 RX2 yX2_tells wsX2_tells) := goodIn_app (goodIn_of _ (by decide +kernel)) ggX2_asksAnswered_X2_tells
theorem dX2_asksAnswered_0 : decode cX2_asksAnswered 0 = .ok (.aload_n 0, 1) := by decide +kernel
theorem dX2_asksAnswered_1 : decode cX2_asksAnswered 1 = .ok (.iload_n 1, 1) := by decide +kernel
theorem dX2_asksAnswered_2 : decode cX2_asksAnswered 2 = .ok (.iload_n 2, 1) := by decide +kernel
theorem dX2_asksAnswered_3 : decode cX2_asksAnswered 3 = .ok (.invokevirtual 62, 3) := by decide +kernel
theorem dX2_asksAnswered_6 : decode cX2_asksAnswered 6 = .ok (.ifCond .ne 9, 3) := by decide +kernel
theorem dX2_asksAnswered_9 : decode cX2_asksAnswered 9 = .ok (.aload_n 0, 1) := by decide +kernel
theorem dX2_asksAnswered_10 : decode cX2_asksAnswered 10 = .ok (.iconst 1, 1) := by decide +kernel
theorem dX2_asksAnswered_11 : decode cX2_asksAnswered 11 = .ok (.invokevirtual 56, 3) := by decide +kernel
theorem dX2_asksAnswered_14 : decode cX2_asksAnswered 14 = .ok (.ireturn, 1) := by decide +kernel
theorem dX2_asksAnswered_15 : decode cX2_asksAnswered 15 = .ok (.aload_n 0, 1) := by decide +kernel
theorem dX2_asksAnswered_16 : decode cX2_asksAnswered 16 = .ok (.invokevirtual 79, 3) := by decide +kernel
theorem dX2_asksAnswered_19 : decode cX2_asksAnswered 19 = .ok (.aload_n 0, 1) := by decide +kernel
theorem dX2_asksAnswered_20 : decode cX2_asksAnswered 20 = .ok (.iload_n 1, 1) := by decide +kernel
theorem dX2_asksAnswered_21 : decode cX2_asksAnswered 21 = .ok (.iload_n 2, 1) := by decide +kernel
theorem dX2_asksAnswered_22 : decode cX2_asksAnswered 22 = .ok (.invokevirtual 95, 3) := by decide +kernel
theorem dX2_asksAnswered_25 : decode cX2_asksAnswered 25 = .ok (.bipush 110, 2) := by decide +kernel
theorem dX2_asksAnswered_27 : decode cX2_asksAnswered 27 = .ok (.if_icmp .eq 9, 3) := by decide +kernel
theorem dX2_asksAnswered_30 : decode cX2_asksAnswered 30 = .ok (.aload_n 0, 1) := by decide +kernel
theorem dX2_asksAnswered_31 : decode cX2_asksAnswered 31 = .ok (.iconst 2, 1) := by decide +kernel
theorem dX2_asksAnswered_32 : decode cX2_asksAnswered 32 = .ok (.invokevirtual 56, 3) := by decide +kernel
theorem dX2_asksAnswered_35 : decode cX2_asksAnswered 35 = .ok (.ireturn, 1) := by decide +kernel
theorem dX2_asksAnswered_36 : decode cX2_asksAnswered 36 = .ok (.aload_n 0, 1) := by decide +kernel
theorem dX2_asksAnswered_37 : decode cX2_asksAnswered 37 = .ok (.iload_n 1, 1) := by decide +kernel
theorem dX2_asksAnswered_38 : decode cX2_asksAnswered 38 = .ok (.iload_n 2, 1) := by decide +kernel
theorem dX2_asksAnswered_39 : decode cX2_asksAnswered 39 = .ok (.invokevirtual 99, 3) := by decide +kernel
theorem dX2_asksAnswered_42 : decode cX2_asksAnswered 42 = .ok (.istore_n 3, 1) := by decide +kernel
theorem dX2_asksAnswered_43 : decode cX2_asksAnswered 43 = .ok (.iload_n 3, 1) := by decide +kernel
theorem dX2_asksAnswered_44 : decode cX2_asksAnswered 44 = .ok (.iconst (-1), 1) := by decide +kernel
theorem dX2_asksAnswered_45 : decode cX2_asksAnswered 45 = .ok (.if_icmp .ne 9, 3) := by decide +kernel
theorem dX2_asksAnswered_48 : decode cX2_asksAnswered 48 = .ok (.aload_n 0, 1) := by decide +kernel
theorem dX2_asksAnswered_49 : decode cX2_asksAnswered 49 = .ok (.iconst 3, 1) := by decide +kernel
theorem dX2_asksAnswered_50 : decode cX2_asksAnswered 50 = .ok (.invokevirtual 56, 3) := by decide +kernel
theorem dX2_asksAnswered_53 : decode cX2_asksAnswered 53 = .ok (.ireturn, 1) := by decide +kernel
theorem dX2_asksAnswered_54 : decode cX2_asksAnswered 54 = .ok (.aload_n 0, 1) := by decide +kernel
theorem dX2_asksAnswered_55 : decode cX2_asksAnswered 55 = .ok (.iload_n 3, 1) := by decide +kernel
theorem dX2_asksAnswered_56 : decode cX2_asksAnswered 56 = .ok (.invokevirtual 59, 3) := by decide +kernel
theorem dX2_asksAnswered_59 : decode cX2_asksAnswered 59 = .ok (.ireturn, 1) := by decide +kernel
set_option maxRecDepth 20000 in
theorem ggX2_answersMail_X2_asksAnswered : GoodIn wsX2_answersMail wsX2_asksAnswered := goodIn_ca (goodIn_r _ [6, 7, 8, 9, 5, 10, 11, 12, 13, 14, 15, 16, 17, 18, 19, 20, 21, 22, 23, 1, 24, 25, 26, 27, 28, 29, 30, 31, 32, 33, 34, 35, 36, 37, 38, 39, 40, 41, 42, 43, 44, 45, 46, 47, 48, 49, 50, 51, 52, 53, 54, 55, 56, 57, 58, 59, 60, 61, 62, 63, 64, 65, 66, 67, 68, 69, 70, 71, 72, 73, 74, 75, 76, 77, 78, 79, 80, 81, 82, 83, 84, 85, 86, 87, 88, 89] rfl (by decide +kernel)) (goodIn_sub (fun _ h => List.mem_cons_of_mem _ (List.mem_append_right _ h)) (by decide +kernel))
set_option maxRecDepth 20000 in
theorem gX2_answersMail_X2_asksAnswered : GoodIn wsX2_answersMail (wsV RX2 102 RX2 yX2_asksAnswered wsX2_asksAnswered) := goodIn_app (goodIn_of _ (by decide +kernel)) ggX2_answersMail_X2_asksAnswered
theorem dX2_answersMail_0 : decode cX2_answersMail 0 = .ok (.aload_n 0, 1) := by decide +kernel
theorem dX2_answersMail_1 : decode cX2_answersMail 1 = .ok (.iload_n 1, 1) := by decide +kernel
theorem dX2_answersMail_2 : decode cX2_answersMail 2 = .ok (.iload_n 2, 1) := by decide +kernel
theorem dX2_answersMail_3 : decode cX2_answersMail 3 = .ok (.invokevirtual 102, 3) := by decide +kernel
theorem dX2_answersMail_6 : decode cX2_answersMail 6 = .ok (.istore_n 3, 1) := by decide +kernel
theorem dX2_answersMail_7 : decode cX2_answersMail 7 = .ok (.aload_n 0, 1) := by decide +kernel
theorem dX2_answersMail_8 : decode cX2_answersMail 8 = .ok (.getfield 37, 3) := by decide +kernel
theorem dX2_answersMail_11 : decode cX2_answersMail 11 = .ok (.ifCond .le 7, 3) := by decide +kernel
theorem dX2_answersMail_14 : decode cX2_answersMail 14 = .ok (.iconst 0, 1) := by decide +kernel
theorem dX2_answersMail_15 : decode cX2_answersMail 15 = .ok (.goto 7, 3) := by decide +kernel
theorem dX2_answersMail_18 : decode cX2_answersMail 18 = .ok (.iload_n 3, 1) := by decide +kernel
theorem dX2_answersMail_19 : decode cX2_answersMail 19 = .ok (.bipush 8, 2) := by decide +kernel
theorem dX2_answersMail_21 : decode cX2_answersMail 21 = .ok (.idiv, 1) := by decide +kernel
theorem dX2_answersMail_22 : decode cX2_answersMail 22 = .ok (.ireturn, 1) := by decide +kernel
set_option maxRecDepth 20000 in
theorem ggX2_answersLine_X2_asksAnswered : GoodIn wsX2_answersLine wsX2_asksAnswered := goodIn_ca (goodIn_r _ [6, 7, 8, 9, 5, 10, 11, 12, 13, 14, 15, 16, 17, 18, 19, 20, 21, 22, 23, 1, 24, 25, 26, 27, 28, 29, 30, 31, 32, 33, 34, 35, 36, 37, 38, 39, 40, 41, 42, 43, 44, 45, 46, 47, 48, 49, 50, 51, 52, 53, 54, 55, 56, 57, 58, 59, 60, 61, 62, 63, 64, 65, 66, 67, 68, 69, 70, 71, 72, 73, 74, 75, 76, 77, 78, 79, 80, 81, 82, 83, 84, 85, 86, 87, 88, 89] rfl (by decide +kernel)) (goodIn_sub (fun _ h => List.mem_cons_of_mem _ (List.mem_append_right _ h)) (by decide +kernel))
set_option maxRecDepth 20000 in
theorem gX2_answersLine_X2_asksAnswered : GoodIn wsX2_answersLine (wsV RX2 102 RX2 yX2_asksAnswered wsX2_asksAnswered) := goodIn_app (goodIn_of _ (by decide +kernel)) ggX2_answersLine_X2_asksAnswered
theorem dX2_answersLine_0 : decode cX2_answersLine 0 = .ok (.aload_n 0, 1) := by decide +kernel
theorem dX2_answersLine_1 : decode cX2_answersLine 1 = .ok (.iload_n 1, 1) := by decide +kernel
theorem dX2_answersLine_2 : decode cX2_answersLine 2 = .ok (.iload_n 2, 1) := by decide +kernel
theorem dX2_answersLine_3 : decode cX2_answersLine 3 = .ok (.invokevirtual 102, 3) := by decide +kernel
theorem dX2_answersLine_6 : decode cX2_answersLine 6 = .ok (.istore_n 3, 1) := by decide +kernel
theorem dX2_answersLine_7 : decode cX2_answersLine 7 = .ok (.aload_n 0, 1) := by decide +kernel
theorem dX2_answersLine_8 : decode cX2_answersLine 8 = .ok (.getfield 37, 3) := by decide +kernel
theorem dX2_answersLine_11 : decode cX2_answersLine 11 = .ok (.ifCond .le 7, 3) := by decide +kernel
theorem dX2_answersLine_14 : decode cX2_answersLine 14 = .ok (.iconst 0, 1) := by decide +kernel
theorem dX2_answersLine_15 : decode cX2_answersLine 15 = .ok (.goto 7, 3) := by decide +kernel
theorem dX2_answersLine_18 : decode cX2_answersLine 18 = .ok (.iload_n 3, 1) := by decide +kernel
theorem dX2_answersLine_19 : decode cX2_answersLine 19 = .ok (.bipush 8, 2) := by decide +kernel
theorem dX2_answersLine_21 : decode cX2_answersLine 21 = .ok (.irem, 1) := by decide +kernel
theorem dX2_answersLine_22 : decode cX2_answersLine 22 = .ok (.ireturn, 1) := by decide +kernel
set_option maxRecDepth 20000 in
theorem ggX2_answers_X2_isLine : GoodIn wsX2_answers wsX2_isLine := goodIn_ca (goodIn_r _ [7, 2, 8, 9, 10, 6, 11, 1, 12, 13, 14, 75, 76, 77, 78, 79, 80, 81, 82, 83, 84, 85] rfl (by decide +kernel)) (goodIn_sub (fun _ h => List.mem_cons_of_mem _ (List.mem_append_right _ h)) (by decide +kernel))
set_option maxRecDepth 20000 in
theorem gX2_answers_X2_isLine : GoodIn wsX2_answers (wsV RX2 62 RX2 yX2_isLine wsX2_isLine) := goodIn_app (goodIn_of _ (by decide +kernel)) ggX2_answers_X2_isLine
set_option maxRecDepth 20000 in
theorem ggX2_answers_X2_fails : GoodIn wsX2_answers wsX2_fails := goodIn_r _ [18, 19, 75, 76, 77, 78, 79, 80, 81, 82, 83, 84, 85] rfl (by decide +kernel)
set_option maxRecDepth 20000 in
theorem gX2_answers_X2_fails : GoodIn wsX2_answers (wsV RX2 56 RX2 yX2_fails wsX2_fails) := goodIn_app (goodIn_of _ (by decide +kernel)) ggX2_answers_X2_fails
set_option maxRecDepth 20000 in
theorem ggX2_answers_X2_alignsAll : GoodIn wsX2_answers wsX2_alignsAll := goodIn_ca (goodIn_r _ [23, 1, 24, 25, 26, 6, 27, 2, 28, 29, 30, 31, 32, 33, 34, 35, 36, 37, 38, 39, 40, 41, 42, 43, 44, 45, 75, 76, 77, 78, 79, 80, 81, 82, 83, 84, 85] rfl (by decide +kernel)) (goodIn_sub (fun _ h => List.mem_cons_of_mem _ (List.mem_append_right _ h)) (by decide +kernel))
set_option maxRecDepth 20000 in
theorem gX2_answers_X2_alignsAll : GoodIn wsX2_answers (wsV RX2 79 RX2 yX2_alignsAll wsX2_alignsAll) := goodIn_app (goodIn_of _ (by decide +kernel)) ggX2_answers_X2_alignsAll
set_option maxRecDepth 20000 in
theorem ggX2_answers_X2_kindOf : GoodIn wsX2_answers wsX2_kindOf := goodIn_ca (goodIn_r _ [49, 44, 2, 29, 34, 50, 51, 52, 6, 53, 1, 54, 55, 56, 57, 58, 45, 30, 31, 32, 33, 35, 36, 37, 38, 39, 59, 60, 61, 62, 75, 76, 77, 78, 79, 80, 81, 82, 83, 84, 85] rfl (by decide +kernel)) (goodIn_sub (fun _ h => List.mem_cons_of_mem _ (List.mem_append_right _ h)) (by decide +kernel))
set_option maxRecDepth 20000 in
theorem gX2_answers_X2_kindOf : GoodIn wsX2_answers (wsV RX2 95 RX2 yX2_kindOf wsX2_kindOf) := goodIn_app (goodIn_of _ (by decide +kernel)) ggX2_answers_X2_kindOf
set_option maxRecDepth 20000 in
theorem ggX2_answers_X2_answersOf : GoodIn wsX2_answers wsX2_answersOf := goodIn_ca (goodIn_r _ [66, 46, 47, 48, 6, 49, 44, 2, 29, 34, 50, 51, 52, 53, 1, 54, 55, 56, 57, 58, 45, 30, 31, 32, 33, 35, 36, 37, 38, 39, 59, 60, 61, 62, 67, 68, 69, 70, 75, 76, 77, 78, 79, 80, 81, 82, 83, 84, 85] rfl (by decide +kernel)) (goodIn_sub (fun _ h => List.mem_cons_of_mem _ (List.mem_append_right _ h)) (by decide +kernel))
set_option maxRecDepth 20000 in
theorem gX2_answers_X2_answersOf : GoodIn wsX2_answers (wsV RX2 99 RX2 yX2_answersOf wsX2_answersOf) := goodIn_app (goodIn_of _ (by decide +kernel)) ggX2_answers_X2_answersOf
set_option maxRecDepth 20000 in
theorem ggX2_answers_X2_tells : GoodIn wsX2_answers wsX2_tells := goodIn_r _ [74, 19, 75, 76, 77, 78, 79, 80, 81, 82, 83, 84, 85] rfl (by decide +kernel)
set_option maxRecDepth 20000 in
theorem gX2_answers_X2_tells : GoodIn wsX2_answers (wsV RX2 59 RX2 yX2_tells wsX2_tells) := goodIn_app (goodIn_of _ (by decide +kernel)) ggX2_answers_X2_tells
theorem dX2_answers_0 : decode cX2_answers 0 = .ok (.aload_n 0, 1) := by decide +kernel
theorem dX2_answers_1 : decode cX2_answers 1 = .ok (.iload_n 1, 1) := by decide +kernel
theorem dX2_answers_2 : decode cX2_answers 2 = .ok (.iload_n 2, 1) := by decide +kernel
theorem dX2_answers_3 : decode cX2_answers 3 = .ok (.invokevirtual 62, 3) := by decide +kernel
theorem dX2_answers_6 : decode cX2_answers 6 = .ok (.ifCond .ne 9, 3) := by decide +kernel
theorem dX2_answers_9 : decode cX2_answers 9 = .ok (.aload_n 0, 1) := by decide +kernel
theorem dX2_answers_10 : decode cX2_answers 10 = .ok (.iconst 1, 1) := by decide +kernel
theorem dX2_answers_11 : decode cX2_answers 11 = .ok (.invokevirtual 56, 3) := by decide +kernel
theorem dX2_answers_14 : decode cX2_answers 14 = .ok (.ireturn, 1) := by decide +kernel
theorem dX2_answers_15 : decode cX2_answers 15 = .ok (.aload_n 0, 1) := by decide +kernel
theorem dX2_answers_16 : decode cX2_answers 16 = .ok (.invokevirtual 79, 3) := by decide +kernel
theorem dX2_answers_19 : decode cX2_answers 19 = .ok (.iconst 0, 1) := by decide +kernel
theorem dX2_answers_20 : decode cX2_answers 20 = .ok (.istore_n 3, 1) := by decide +kernel
theorem dX2_answers_21 : decode cX2_answers 21 = .ok (.iconst 0, 1) := by decide +kernel
theorem dX2_answers_22 : decode cX2_answers 22 = .ok (.istore 4, 2) := by decide +kernel
theorem dX2_answers_24 : decode cX2_answers 24 = .ok (.iload 4, 2) := by decide +kernel
theorem dX2_answers_26 : decode cX2_answers 26 = .ok (.aload_n 0, 1) := by decide +kernel
theorem dX2_answers_27 : decode cX2_answers 27 = .ok (.getfield 41, 3) := by decide +kernel
theorem dX2_answers_30 : decode cX2_answers 30 = .ok (.if_icmp .ge 68, 3) := by decide +kernel
theorem dX2_answers_33 : decode cX2_answers 33 = .ok (.iconst 0, 1) := by decide +kernel
theorem dX2_answers_34 : decode cX2_answers 34 = .ok (.istore 5, 2) := by decide +kernel
theorem dX2_answers_36 : decode cX2_answers 36 = .ok (.iload 5, 2) := by decide +kernel
theorem dX2_answers_38 : decode cX2_answers 38 = .ok (.aload_n 0, 1) := by decide +kernel
theorem dX2_answers_39 : decode cX2_answers 39 = .ok (.getfield 22, 3) := by decide +kernel
theorem dX2_answers_42 : decode cX2_answers 42 = .ok (.iload 4, 2) := by decide +kernel
theorem dX2_answers_44 : decode cX2_answers 44 = .ok (.iaload, 1) := by decide +kernel
theorem dX2_answers_45 : decode cX2_answers 45 = .ok (.if_icmp .ge 47, 3) := by decide +kernel
theorem dX2_answers_48 : decode cX2_answers 48 = .ok (.iload_n 3, 1) := by decide +kernel
theorem dX2_answers_49 : decode cX2_answers 49 = .ok (.aload_n 0, 1) := by decide +kernel
theorem dX2_answers_50 : decode cX2_answers 50 = .ok (.iload 4, 2) := by decide +kernel
theorem dX2_answers_52 : decode cX2_answers 52 = .ok (.iload 5, 2) := by decide +kernel
theorem dX2_answers_54 : decode cX2_answers 54 = .ok (.invokevirtual 95, 3) := by decide +kernel
theorem dX2_answers_57 : decode cX2_answers 57 = .ok (.bipush 110, 2) := by decide +kernel
theorem dX2_answers_59 : decode cX2_answers 59 = .ok (.if_icmp .ne 24, 3) := by decide +kernel
theorem dX2_answers_62 : decode cX2_answers 62 = .ok (.aload_n 0, 1) := by decide +kernel
theorem dX2_answers_63 : decode cX2_answers 63 = .ok (.iload 4, 2) := by decide +kernel
theorem dX2_answers_65 : decode cX2_answers 65 = .ok (.iload 5, 2) := by decide +kernel
theorem dX2_answers_67 : decode cX2_answers 67 = .ok (.invokevirtual 99, 3) := by decide +kernel
theorem dX2_answers_70 : decode cX2_answers 70 = .ok (.bipush 8, 2) := by decide +kernel
theorem dX2_answers_72 : decode cX2_answers 72 = .ok (.iload_n 1, 1) := by decide +kernel
theorem dX2_answers_73 : decode cX2_answers 73 = .ok (.imul, 1) := by decide +kernel
theorem dX2_answers_74 : decode cX2_answers 74 = .ok (.iload_n 2, 1) := by decide +kernel
theorem dX2_answers_75 : decode cX2_answers 75 = .ok (.iadd, 1) := by decide +kernel
theorem dX2_answers_76 : decode cX2_answers 76 = .ok (.if_icmp .ne 7, 3) := by decide +kernel
theorem dX2_answers_79 : decode cX2_answers 79 = .ok (.iconst 1, 1) := by decide +kernel
theorem dX2_answers_80 : decode cX2_answers 80 = .ok (.goto 4, 3) := by decide +kernel
theorem dX2_answers_83 : decode cX2_answers 83 = .ok (.iconst 0, 1) := by decide +kernel
theorem dX2_answers_84 : decode cX2_answers 84 = .ok (.iadd, 1) := by decide +kernel
theorem dX2_answers_85 : decode cX2_answers 85 = .ok (.istore_n 3, 1) := by decide +kernel
theorem dX2_answers_86 : decode cX2_answers 86 = .ok (.iinc 5 1, 3) := by decide +kernel
theorem dX2_answers_89 : decode cX2_answers 89 = .ok (.goto (-53), 3) := by decide +kernel
theorem dX2_answers_92 : decode cX2_answers 92 = .ok (.iinc 4 1, 3) := by decide +kernel
theorem dX2_answers_95 : decode cX2_answers 95 = .ok (.goto (-71), 3) := by decide +kernel
theorem dX2_answers_98 : decode cX2_answers 98 = .ok (.aload_n 0, 1) := by decide +kernel
theorem dX2_answers_99 : decode cX2_answers 99 = .ok (.iload_n 3, 1) := by decide +kernel
theorem dX2_answers_100 : decode cX2_answers 100 = .ok (.invokevirtual 59, 3) := by decide +kernel
theorem dX2_answers_103 : decode cX2_answers 103 = .ok (.ireturn, 1) := by decide +kernel
set_option maxRecDepth 20000 in
theorem ggX2_talkOf_X2_alignsAll : GoodIn wsX2_talkOf wsX2_alignsAll := goodIn_ca (goodIn_r _ [7, 1, 8, 9, 10, 6, 11, 2, 12, 13, 14, 15, 16, 17, 18, 19, 20, 21, 22, 23, 24, 25, 26, 27, 28, 29, 51, 52, 53, 54, 55, 56, 57, 58, 59, 60, 61] rfl (by decide +kernel)) (goodIn_sub (fun _ h => List.mem_cons_of_mem _ (List.mem_append_right _ h)) (by decide +kernel))
set_option maxRecDepth 20000 in
theorem gX2_talkOf_X2_alignsAll : GoodIn wsX2_talkOf (wsV RX2 79 RX2 yX2_alignsAll wsX2_alignsAll) := goodIn_app (goodIn_of _ (by decide +kernel)) ggX2_talkOf_X2_alignsAll
set_option maxRecDepth 20000 in
theorem ggX2_talkOf_X2_isTalk : GoodIn wsX2_talkOf wsX2_isTalk := goodIn_ca (goodIn_r _ [33, 34, 35, 36, 6, 37, 28, 2, 13, 18, 38, 39, 40, 41, 1, 42, 43, 44, 45, 46, 29, 14, 15, 16, 17, 19, 20, 21, 22, 23, 47, 48, 49, 50, 51, 52, 53, 54, 55, 56, 57, 58, 59, 60, 61] rfl (by decide +kernel)) (goodIn_sub (fun _ h => List.mem_cons_of_mem _ (List.mem_append_right _ h)) (by decide +kernel))
set_option maxRecDepth 20000 in
theorem gX2_talkOf_X2_isTalk : GoodIn wsX2_talkOf (wsV RX2 105 RX2 yX2_isTalk wsX2_isTalk) := goodIn_app (goodIn_of _ (by decide +kernel)) ggX2_talkOf_X2_isTalk
theorem dX2_talkOf_0 : decode cX2_talkOf 0 = .ok (.aload_n 0, 1) := by decide +kernel
theorem dX2_talkOf_1 : decode cX2_talkOf 1 = .ok (.invokevirtual 79, 3) := by decide +kernel
theorem dX2_talkOf_4 : decode cX2_talkOf 4 = .ok (.iconst 0, 1) := by decide +kernel
theorem dX2_talkOf_5 : decode cX2_talkOf 5 = .ok (.istore_n 1, 1) := by decide +kernel
theorem dX2_talkOf_6 : decode cX2_talkOf 6 = .ok (.iconst 0, 1) := by decide +kernel
theorem dX2_talkOf_7 : decode cX2_talkOf 7 = .ok (.istore_n 2, 1) := by decide +kernel
theorem dX2_talkOf_8 : decode cX2_talkOf 8 = .ok (.iload_n 2, 1) := by decide +kernel
theorem dX2_talkOf_9 : decode cX2_talkOf 9 = .ok (.aload_n 0, 1) := by decide +kernel
theorem dX2_talkOf_10 : decode cX2_talkOf 10 = .ok (.getfield 41, 3) := by decide +kernel
theorem dX2_talkOf_13 : decode cX2_talkOf 13 = .ok (.if_icmp .ge 44, 3) := by decide +kernel
theorem dX2_talkOf_16 : decode cX2_talkOf 16 = .ok (.iconst 0, 1) := by decide +kernel
theorem dX2_talkOf_17 : decode cX2_talkOf 17 = .ok (.istore_n 3, 1) := by decide +kernel
theorem dX2_talkOf_18 : decode cX2_talkOf 18 = .ok (.iload_n 3, 1) := by decide +kernel
theorem dX2_talkOf_19 : decode cX2_talkOf 19 = .ok (.aload_n 0, 1) := by decide +kernel
theorem dX2_talkOf_20 : decode cX2_talkOf 20 = .ok (.getfield 22, 3) := by decide +kernel
theorem dX2_talkOf_23 : decode cX2_talkOf 23 = .ok (.iload_n 2, 1) := by decide +kernel
theorem dX2_talkOf_24 : decode cX2_talkOf 24 = .ok (.iaload, 1) := by decide +kernel
theorem dX2_talkOf_25 : decode cX2_talkOf 25 = .ok (.if_icmp .ge 26, 3) := by decide +kernel
theorem dX2_talkOf_28 : decode cX2_talkOf 28 = .ok (.iload_n 1, 1) := by decide +kernel
theorem dX2_talkOf_29 : decode cX2_talkOf 29 = .ok (.aload_n 0, 1) := by decide +kernel
theorem dX2_talkOf_30 : decode cX2_talkOf 30 = .ok (.iload_n 2, 1) := by decide +kernel
theorem dX2_talkOf_31 : decode cX2_talkOf 31 = .ok (.iload_n 3, 1) := by decide +kernel
theorem dX2_talkOf_32 : decode cX2_talkOf 32 = .ok (.invokevirtual 105, 3) := by decide +kernel
theorem dX2_talkOf_35 : decode cX2_talkOf 35 = .ok (.ifCond .eq 7, 3) := by decide +kernel
theorem dX2_talkOf_38 : decode cX2_talkOf 38 = .ok (.iconst 1, 1) := by decide +kernel
theorem dX2_talkOf_39 : decode cX2_talkOf 39 = .ok (.goto 4, 3) := by decide +kernel
theorem dX2_talkOf_42 : decode cX2_talkOf 42 = .ok (.iconst 0, 1) := by decide +kernel
theorem dX2_talkOf_43 : decode cX2_talkOf 43 = .ok (.iadd, 1) := by decide +kernel
theorem dX2_talkOf_44 : decode cX2_talkOf 44 = .ok (.istore_n 1, 1) := by decide +kernel
theorem dX2_talkOf_45 : decode cX2_talkOf 45 = .ok (.iinc 3 1, 3) := by decide +kernel
theorem dX2_talkOf_48 : decode cX2_talkOf 48 = .ok (.goto (-30), 3) := by decide +kernel
theorem dX2_talkOf_51 : decode cX2_talkOf 51 = .ok (.iinc 2 1, 3) := by decide +kernel
theorem dX2_talkOf_54 : decode cX2_talkOf 54 = .ok (.goto (-46), 3) := by decide +kernel
theorem dX2_talkOf_57 : decode cX2_talkOf 57 = .ok (.iload_n 1, 1) := by decide +kernel
theorem dX2_talkOf_58 : decode cX2_talkOf 58 = .ok (.ireturn, 1) := by decide +kernel
set_option maxRecDepth 20000 in
theorem ggX2_talk_X2_talkOf : GoodIn wsX2_talk wsX2_talkOf := goodIn_ca (goodIn_r _ [5, 6, 7, 8, 9, 10, 4, 11, 12, 13, 14, 15, 16, 17, 18, 19, 20, 21, 22, 23, 24, 25, 26, 27, 28, 29, 30, 31, 32, 33, 34, 35, 36, 37, 38, 39, 40, 41, 42, 43, 44, 45, 46, 47, 48, 49, 50, 51, 52, 53, 54, 60, 61, 62, 63, 64, 65, 66, 67, 68, 69, 70] rfl (by decide +kernel)) (goodIn_sub (fun _ h => List.mem_cons_of_mem _ (List.mem_append_right _ h)) (by decide +kernel))
set_option maxRecDepth 20000 in
theorem gX2_talk_X2_talkOf : GoodIn wsX2_talk (wsV RX2 108 RX2 yX2_talkOf wsX2_talkOf) := goodIn_app (goodIn_of _ (by decide +kernel)) ggX2_talk_X2_talkOf
set_option maxRecDepth 20000 in
theorem ggX2_talk_X2_tells : GoodIn wsX2_talk wsX2_tells := goodIn_r _ [58, 59, 60, 61, 62, 63, 64, 65, 66, 67, 68, 69, 70] rfl (by decide +kernel)
set_option maxRecDepth 20000 in
theorem gX2_talk_X2_tells : GoodIn wsX2_talk (wsV RX2 59 RX2 yX2_tells wsX2_tells) := goodIn_app (goodIn_of _ (by decide +kernel)) ggX2_talk_X2_tells
theorem dX2_talk_0 : decode cX2_talk 0 = .ok (.aload_n 0, 1) := by decide +kernel
theorem dX2_talk_1 : decode cX2_talk 1 = .ok (.aload_n 0, 1) := by decide +kernel
theorem dX2_talk_2 : decode cX2_talk 2 = .ok (.invokevirtual 108, 3) := by decide +kernel
theorem dX2_talk_5 : decode cX2_talk 5 = .ok (.invokevirtual 59, 3) := by decide +kernel
theorem dX2_talk_8 : decode cX2_talk 8 = .ok (.ireturn, 1) := by decide +kernel
set_option maxRecDepth 20000 in
theorem ggX2_talkByOrigins_X2_talkOf : GoodIn wsX2_talkByOrigins wsX2_talkOf := goodIn_ca (goodIn_r _ [5, 6, 7, 8, 9, 10, 4, 11, 12, 13, 14, 15, 16, 17, 18, 19, 20, 21, 22, 23, 24, 25, 26, 27, 28, 29, 30, 31, 32, 33, 34, 35, 36, 37, 38, 39, 40, 41, 42, 43, 44, 45, 46, 47, 48, 49, 50, 51, 52, 53, 54, 60, 61, 62, 63, 64, 65, 66, 67, 68, 69, 70] rfl (by decide +kernel)) (goodIn_sub (fun _ h => List.mem_cons_of_mem _ (List.mem_append_right _ h)) (by decide +kernel))
set_option maxRecDepth 20000 in
theorem gX2_talkByOrigins_X2_talkOf : GoodIn wsX2_talkByOrigins (wsV RX2 108 RX2 yX2_talkOf wsX2_talkOf) := goodIn_app (goodIn_of _ (by decide +kernel)) ggX2_talkByOrigins_X2_talkOf
set_option maxRecDepth 20000 in
theorem ggX2_talkByOrigins_X2_tells : GoodIn wsX2_talkByOrigins wsX2_tells := goodIn_r _ [58, 59, 60, 61, 62, 63, 64, 65, 66, 67, 68, 69, 70] rfl (by decide +kernel)
set_option maxRecDepth 20000 in
theorem gX2_talkByOrigins_X2_tells : GoodIn wsX2_talkByOrigins (wsV RX2 59 RX2 yX2_tells wsX2_tells) := goodIn_app (goodIn_of _ (by decide +kernel)) ggX2_talkByOrigins_X2_tells
theorem dX2_talkByOrigins_0 : decode cX2_talkByOrigins 0 = .ok (.aload_n 0, 1) := by decide +kernel
theorem dX2_talkByOrigins_1 : decode cX2_talkByOrigins 1 = .ok (.aload_n 0, 1) := by decide +kernel
theorem dX2_talkByOrigins_2 : decode cX2_talkByOrigins 2 = .ok (.invokevirtual 108, 3) := by decide +kernel
theorem dX2_talkByOrigins_5 : decode cX2_talkByOrigins 5 = .ok (.invokevirtual 59, 3) := by decide +kernel
theorem dX2_talkByOrigins_8 : decode cX2_talkByOrigins 8 = .ok (.ireturn, 1) := by decide +kernel
set_option maxRecDepth 20000 in
theorem ggX2_copies_X2_isLine : GoodIn wsX2_copies wsX2_isLine := goodIn_ca (goodIn_r _ [7, 2, 8, 9, 10, 6, 11, 1, 12, 13, 14, 75, 76, 77, 78, 79, 80, 81, 82, 83, 84, 85] rfl (by decide +kernel)) (goodIn_sub (fun _ h => List.mem_cons_of_mem _ (List.mem_append_right _ h)) (by decide +kernel))
set_option maxRecDepth 20000 in
theorem gX2_copies_X2_isLine : GoodIn wsX2_copies (wsV RX2 62 RX2 yX2_isLine wsX2_isLine) := goodIn_app (goodIn_of _ (by decide +kernel)) ggX2_copies_X2_isLine
set_option maxRecDepth 20000 in
theorem ggX2_copies_X2_fails : GoodIn wsX2_copies wsX2_fails := goodIn_r _ [18, 19, 75, 76, 77, 78, 79, 80, 81, 82, 83, 84, 85] rfl (by decide +kernel)
set_option maxRecDepth 20000 in
theorem gX2_copies_X2_fails : GoodIn wsX2_copies (wsV RX2 56 RX2 yX2_fails wsX2_fails) := goodIn_app (goodIn_of _ (by decide +kernel)) ggX2_copies_X2_fails
set_option maxRecDepth 20000 in
theorem ggX2_copies_X2_alignsAll : GoodIn wsX2_copies wsX2_alignsAll := goodIn_ca (goodIn_r _ [23, 1, 24, 25, 26, 6, 27, 2, 28, 29, 30, 31, 32, 33, 34, 35, 36, 37, 38, 39, 40, 41, 42, 43, 44, 45, 75, 76, 77, 78, 79, 80, 81, 82, 83, 84, 85] rfl (by decide +kernel)) (goodIn_sub (fun _ h => List.mem_cons_of_mem _ (List.mem_append_right _ h)) (by decide +kernel))
set_option maxRecDepth 20000 in
theorem gX2_copies_X2_alignsAll : GoodIn wsX2_copies (wsV RX2 79 RX2 yX2_alignsAll wsX2_alignsAll) := goodIn_app (goodIn_of _ (by decide +kernel)) ggX2_copies_X2_alignsAll
set_option maxRecDepth 20000 in
theorem ggX2_copies_X2_isTalk : GoodIn wsX2_copies wsX2_isTalk := goodIn_ca (goodIn_r _ [49, 50, 51, 52, 6, 53, 44, 2, 29, 34, 54, 55, 56, 57, 1, 58, 59, 60, 61, 62, 45, 30, 31, 32, 33, 35, 36, 37, 38, 39, 63, 64, 65, 66, 75, 76, 77, 78, 79, 80, 81, 82, 83, 84, 85] rfl (by decide +kernel)) (goodIn_sub (fun _ h => List.mem_cons_of_mem _ (List.mem_append_right _ h)) (by decide +kernel))
set_option maxRecDepth 20000 in
theorem gX2_copies_X2_isTalk : GoodIn wsX2_copies (wsV RX2 105 RX2 yX2_isTalk wsX2_isTalk) := goodIn_app (goodIn_of _ (by decide +kernel)) ggX2_copies_X2_isTalk
set_option maxRecDepth 20000 in
theorem ggX2_copies_X2_origin : GoodIn wsX2_copies wsX2_origin := goodIn_ca (goodIn_r _ [70, 29, 30, 31, 32, 6, 33, 34, 35, 36, 37, 38, 1, 39, 75, 76, 77, 78, 79, 80, 81, 82, 83, 84, 85] rfl (by decide +kernel)) (goodIn_sub (fun _ h => List.mem_cons_of_mem _ (List.mem_append_right _ h)) (by decide +kernel))
set_option maxRecDepth 20000 in
theorem gX2_copies_X2_origin : GoodIn wsX2_copies (wsV RX2 82 RX2 yX2_origin wsX2_origin) := goodIn_app (goodIn_of _ (by decide +kernel)) ggX2_copies_X2_origin
set_option maxRecDepth 20000 in
theorem ggX2_copies_X2_tells : GoodIn wsX2_copies wsX2_tells := goodIn_r _ [74, 19, 75, 76, 77, 78, 79, 80, 81, 82, 83, 84, 85] rfl (by decide +kernel)
set_option maxRecDepth 20000 in
theorem gX2_copies_X2_tells : GoodIn wsX2_copies (wsV RX2 59 RX2 yX2_tells wsX2_tells) := goodIn_app (goodIn_of _ (by decide +kernel)) ggX2_copies_X2_tells
theorem dX2_copies_0 : decode cX2_copies 0 = .ok (.aload_n 0, 1) := by decide +kernel
theorem dX2_copies_1 : decode cX2_copies 1 = .ok (.iload_n 1, 1) := by decide +kernel
theorem dX2_copies_2 : decode cX2_copies 2 = .ok (.iload_n 2, 1) := by decide +kernel
theorem dX2_copies_3 : decode cX2_copies 3 = .ok (.invokevirtual 62, 3) := by decide +kernel
theorem dX2_copies_6 : decode cX2_copies 6 = .ok (.ifCond .ne 9, 3) := by decide +kernel
theorem dX2_copies_9 : decode cX2_copies 9 = .ok (.aload_n 0, 1) := by decide +kernel
theorem dX2_copies_10 : decode cX2_copies 10 = .ok (.iconst 1, 1) := by decide +kernel
theorem dX2_copies_11 : decode cX2_copies 11 = .ok (.invokevirtual 56, 3) := by decide +kernel
theorem dX2_copies_14 : decode cX2_copies 14 = .ok (.ireturn, 1) := by decide +kernel
theorem dX2_copies_15 : decode cX2_copies 15 = .ok (.aload_n 0, 1) := by decide +kernel
theorem dX2_copies_16 : decode cX2_copies 16 = .ok (.invokevirtual 79, 3) := by decide +kernel
theorem dX2_copies_19 : decode cX2_copies 19 = .ok (.aload_n 0, 1) := by decide +kernel
theorem dX2_copies_20 : decode cX2_copies 20 = .ok (.iload_n 1, 1) := by decide +kernel
theorem dX2_copies_21 : decode cX2_copies 21 = .ok (.iload_n 2, 1) := by decide +kernel
theorem dX2_copies_22 : decode cX2_copies 22 = .ok (.invokevirtual 105, 3) := by decide +kernel
theorem dX2_copies_25 : decode cX2_copies 25 = .ok (.ifCond .ne 9, 3) := by decide +kernel
theorem dX2_copies_28 : decode cX2_copies 28 = .ok (.aload_n 0, 1) := by decide +kernel
theorem dX2_copies_29 : decode cX2_copies 29 = .ok (.iconst 2, 1) := by decide +kernel
theorem dX2_copies_30 : decode cX2_copies 30 = .ok (.invokevirtual 56, 3) := by decide +kernel
theorem dX2_copies_33 : decode cX2_copies 33 = .ok (.ireturn, 1) := by decide +kernel
theorem dX2_copies_34 : decode cX2_copies 34 = .ok (.iconst 0, 1) := by decide +kernel
theorem dX2_copies_35 : decode cX2_copies 35 = .ok (.istore_n 3, 1) := by decide +kernel
theorem dX2_copies_36 : decode cX2_copies 36 = .ok (.iconst 0, 1) := by decide +kernel
theorem dX2_copies_37 : decode cX2_copies 37 = .ok (.istore 4, 2) := by decide +kernel
theorem dX2_copies_39 : decode cX2_copies 39 = .ok (.iload 4, 2) := by decide +kernel
theorem dX2_copies_41 : decode cX2_copies 41 = .ok (.aload_n 0, 1) := by decide +kernel
theorem dX2_copies_42 : decode cX2_copies 42 = .ok (.getfield 41, 3) := by decide +kernel
theorem dX2_copies_45 : decode cX2_copies 45 = .ok (.if_icmp .ge 55, 3) := by decide +kernel
theorem dX2_copies_48 : decode cX2_copies 48 = .ok (.iconst 0, 1) := by decide +kernel
theorem dX2_copies_49 : decode cX2_copies 49 = .ok (.istore 5, 2) := by decide +kernel
theorem dX2_copies_51 : decode cX2_copies 51 = .ok (.iload 5, 2) := by decide +kernel
theorem dX2_copies_53 : decode cX2_copies 53 = .ok (.aload_n 0, 1) := by decide +kernel
theorem dX2_copies_54 : decode cX2_copies 54 = .ok (.getfield 22, 3) := by decide +kernel
theorem dX2_copies_57 : decode cX2_copies 57 = .ok (.iload 4, 2) := by decide +kernel
theorem dX2_copies_59 : decode cX2_copies 59 = .ok (.iaload, 1) := by decide +kernel
theorem dX2_copies_60 : decode cX2_copies 60 = .ok (.if_icmp .ge 34, 3) := by decide +kernel
theorem dX2_copies_63 : decode cX2_copies 63 = .ok (.iload_n 3, 1) := by decide +kernel
theorem dX2_copies_64 : decode cX2_copies 64 = .ok (.aload_n 0, 1) := by decide +kernel
theorem dX2_copies_65 : decode cX2_copies 65 = .ok (.iload 4, 2) := by decide +kernel
theorem dX2_copies_67 : decode cX2_copies 67 = .ok (.iload 5, 2) := by decide +kernel
theorem dX2_copies_69 : decode cX2_copies 69 = .ok (.invokevirtual 82, 3) := by decide +kernel
theorem dX2_copies_72 : decode cX2_copies 72 = .ok (.bipush 8, 2) := by decide +kernel
theorem dX2_copies_74 : decode cX2_copies 74 = .ok (.iload_n 1, 1) := by decide +kernel
theorem dX2_copies_75 : decode cX2_copies 75 = .ok (.imul, 1) := by decide +kernel
theorem dX2_copies_76 : decode cX2_copies 76 = .ok (.iload_n 2, 1) := by decide +kernel
theorem dX2_copies_77 : decode cX2_copies 77 = .ok (.iadd, 1) := by decide +kernel
theorem dX2_copies_78 : decode cX2_copies 78 = .ok (.if_icmp .ne 7, 3) := by decide +kernel
theorem dX2_copies_81 : decode cX2_copies 81 = .ok (.iconst 1, 1) := by decide +kernel
theorem dX2_copies_82 : decode cX2_copies 82 = .ok (.goto 4, 3) := by decide +kernel
theorem dX2_copies_85 : decode cX2_copies 85 = .ok (.iconst 0, 1) := by decide +kernel
theorem dX2_copies_86 : decode cX2_copies 86 = .ok (.iadd, 1) := by decide +kernel
theorem dX2_copies_87 : decode cX2_copies 87 = .ok (.istore_n 3, 1) := by decide +kernel
theorem dX2_copies_88 : decode cX2_copies 88 = .ok (.iinc 5 1, 3) := by decide +kernel
theorem dX2_copies_91 : decode cX2_copies 91 = .ok (.goto (-40), 3) := by decide +kernel
theorem dX2_copies_94 : decode cX2_copies 94 = .ok (.iinc 4 1, 3) := by decide +kernel
theorem dX2_copies_97 : decode cX2_copies 97 = .ok (.goto (-58), 3) := by decide +kernel
theorem dX2_copies_100 : decode cX2_copies 100 = .ok (.aload_n 0, 1) := by decide +kernel
theorem dX2_copies_101 : decode cX2_copies 101 = .ok (.iload_n 3, 1) := by decide +kernel
theorem dX2_copies_102 : decode cX2_copies 102 = .ok (.invokevirtual 59, 3) := by decide +kernel
theorem dX2_copies_105 : decode cX2_copies 105 = .ok (.ireturn, 1) := by decide +kernel
set_option maxRecDepth 20000 in
theorem ggX2_rootOf_X2_parentOf : GoodIn wsX2_rootOf wsX2_parentOf := goodIn_ca (goodIn_r _ [6, 7, 8, 9, 10, 5, 11, 12, 13, 14, 15, 16, 17, 18, 19, 20, 21, 22, 23, 24] rfl (by decide +kernel)) (goodIn_sub (fun _ h => List.mem_cons_of_mem _ (List.mem_append_right _ h)) (by decide +kernel))
set_option maxRecDepth 20000 in
theorem gX2_rootOf_X2_parentOf : GoodIn wsX2_rootOf (wsV RX2 66 RX2 yX2_parentOf wsX2_parentOf) := goodIn_app (goodIn_of _ (by decide +kernel)) ggX2_rootOf_X2_parentOf
theorem dX2_rootOf_0 : decode cX2_rootOf 0 = .ok (.iload_n 1, 1) := by decide +kernel
theorem dX2_rootOf_1 : decode cX2_rootOf 1 = .ok (.istore_n 2, 1) := by decide +kernel
theorem dX2_rootOf_2 : decode cX2_rootOf 2 = .ok (.aload_n 0, 1) := by decide +kernel
theorem dX2_rootOf_3 : decode cX2_rootOf 3 = .ok (.iload_n 2, 1) := by decide +kernel
theorem dX2_rootOf_4 : decode cX2_rootOf 4 = .ok (.invokevirtual 66, 3) := by decide +kernel
theorem dX2_rootOf_7 : decode cX2_rootOf 7 = .ok (.iconst (-1), 1) := by decide +kernel
theorem dX2_rootOf_8 : decode cX2_rootOf 8 = .ok (.if_icmp .eq 31, 3) := by decide +kernel
theorem dX2_rootOf_11 : decode cX2_rootOf 11 = .ok (.aload_n 0, 1) := by decide +kernel
theorem dX2_rootOf_12 : decode cX2_rootOf 12 = .ok (.getfield 16, 3) := by decide +kernel
theorem dX2_rootOf_15 : decode cX2_rootOf 15 = .ok (.aload_n 0, 1) := by decide +kernel
theorem dX2_rootOf_16 : decode cX2_rootOf 16 = .ok (.iload_n 2, 1) := by decide +kernel
theorem dX2_rootOf_17 : decode cX2_rootOf 17 = .ok (.invokevirtual 66, 3) := by decide +kernel
theorem dX2_rootOf_20 : decode cX2_rootOf 20 = .ok (.iaload, 1) := by decide +kernel
theorem dX2_rootOf_21 : decode cX2_rootOf 21 = .ok (.aload_n 0, 1) := by decide +kernel
theorem dX2_rootOf_22 : decode cX2_rootOf 22 = .ok (.getfield 16, 3) := by decide +kernel
theorem dX2_rootOf_25 : decode cX2_rootOf 25 = .ok (.iload_n 2, 1) := by decide +kernel
theorem dX2_rootOf_26 : decode cX2_rootOf 26 = .ok (.iaload, 1) := by decide +kernel
theorem dX2_rootOf_27 : decode cX2_rootOf 27 = .ok (.if_icmp .ne 12, 3) := by decide +kernel
theorem dX2_rootOf_30 : decode cX2_rootOf 30 = .ok (.aload_n 0, 1) := by decide +kernel
theorem dX2_rootOf_31 : decode cX2_rootOf 31 = .ok (.iload_n 2, 1) := by decide +kernel
theorem dX2_rootOf_32 : decode cX2_rootOf 32 = .ok (.invokevirtual 66, 3) := by decide +kernel
theorem dX2_rootOf_35 : decode cX2_rootOf 35 = .ok (.istore_n 2, 1) := by decide +kernel
theorem dX2_rootOf_36 : decode cX2_rootOf 36 = .ok (.goto (-34), 3) := by decide +kernel
theorem dX2_rootOf_39 : decode cX2_rootOf 39 = .ok (.iload_n 2, 1) := by decide +kernel
theorem dX2_rootOf_40 : decode cX2_rootOf 40 = .ok (.ireturn, 1) := by decide +kernel
set_option maxRecDepth 20000 in
theorem ggX2_root_X2_isMail : GoodIn wsX2_root wsX2_isMail := goodIn_r _ [5, 6, 7, 8, 4, 9, 34, 35, 36, 37, 38, 39, 40, 41, 42, 43, 44] rfl (by decide +kernel)
set_option maxRecDepth 20000 in
theorem gX2_root_X2_isMail : GoodIn wsX2_root (wsV RX2 48 RX2 yX2_isMail wsX2_isMail) := goodIn_app (goodIn_of _ (by decide +kernel)) ggX2_root_X2_isMail
set_option maxRecDepth 20000 in
theorem ggX2_root_X2_rootOf : GoodIn wsX2_root wsX2_rootOf := goodIn_ca (goodIn_r _ [13, 14, 15, 16, 17, 4, 18, 19, 20, 21, 22, 23, 6, 24, 34, 35, 36, 37, 38, 39, 40, 41, 42, 43, 44] rfl (by decide +kernel)) (goodIn_sub (fun _ h => List.mem_cons_of_mem _ (List.mem_append_right _ h)) (by decide +kernel))
set_option maxRecDepth 20000 in
theorem gX2_root_X2_rootOf : GoodIn wsX2_root (wsV RX2 112 RX2 yX2_rootOf wsX2_rootOf) := goodIn_app (goodIn_of _ (by decide +kernel)) ggX2_root_X2_rootOf
set_option maxRecDepth 20000 in
theorem ggX2_root_X2_tells : GoodIn wsX2_root wsX2_tells := goodIn_r _ [28, 29, 34, 35, 36, 37, 38, 39, 40, 41, 42, 43, 44] rfl (by decide +kernel)
set_option maxRecDepth 20000 in
theorem gX2_root_X2_tells : GoodIn wsX2_root (wsV RX2 59 RX2 yX2_tells wsX2_tells) := goodIn_app (goodIn_of _ (by decide +kernel)) ggX2_root_X2_tells
set_option maxRecDepth 20000 in
theorem ggX2_root_X2_fails : GoodIn wsX2_root wsX2_fails := goodIn_r _ [33, 29, 34, 35, 36, 37, 38, 39, 40, 41, 42, 43, 44] rfl (by decide +kernel)
set_option maxRecDepth 20000 in
theorem gX2_root_X2_fails : GoodIn wsX2_root (wsV RX2 56 RX2 yX2_fails wsX2_fails) := goodIn_app (goodIn_of _ (by decide +kernel)) ggX2_root_X2_fails
theorem dX2_root_0 : decode cX2_root 0 = .ok (.aload_n 0, 1) := by decide +kernel
theorem dX2_root_1 : decode cX2_root 1 = .ok (.iload_n 1, 1) := by decide +kernel
theorem dX2_root_2 : decode cX2_root 2 = .ok (.invokevirtual 48, 3) := by decide +kernel
theorem dX2_root_5 : decode cX2_root 5 = .ok (.ifCond .eq 15, 3) := by decide +kernel
theorem dX2_root_8 : decode cX2_root 8 = .ok (.aload_n 0, 1) := by decide +kernel
theorem dX2_root_9 : decode cX2_root 9 = .ok (.aload_n 0, 1) := by decide +kernel
theorem dX2_root_10 : decode cX2_root 10 = .ok (.iload_n 1, 1) := by decide +kernel
theorem dX2_root_11 : decode cX2_root 11 = .ok (.invokevirtual 112, 3) := by decide +kernel
theorem dX2_root_14 : decode cX2_root 14 = .ok (.invokevirtual 59, 3) := by decide +kernel
theorem dX2_root_17 : decode cX2_root 17 = .ok (.goto 8, 3) := by decide +kernel
theorem dX2_root_20 : decode cX2_root 20 = .ok (.aload_n 0, 1) := by decide +kernel
theorem dX2_root_21 : decode cX2_root 21 = .ok (.iconst 1, 1) := by decide +kernel
theorem dX2_root_22 : decode cX2_root 22 = .ok (.invokevirtual 56, 3) := by decide +kernel
theorem dX2_root_25 : decode cX2_root 25 = .ok (.ireturn, 1) := by decide +kernel
set_option maxRecDepth 20000 in
theorem ggX2_rootByRounds_X2_isMail : GoodIn wsX2_rootByRounds wsX2_isMail := goodIn_r _ [5, 6, 7, 8, 4, 9, 34, 35, 36, 37, 38, 39, 40, 41, 42, 43, 44] rfl (by decide +kernel)
set_option maxRecDepth 20000 in
theorem gX2_rootByRounds_X2_isMail : GoodIn wsX2_rootByRounds (wsV RX2 48 RX2 yX2_isMail wsX2_isMail) := goodIn_app (goodIn_of _ (by decide +kernel)) ggX2_rootByRounds_X2_isMail
set_option maxRecDepth 20000 in
theorem ggX2_rootByRounds_X2_rootOf : GoodIn wsX2_rootByRounds wsX2_rootOf := goodIn_ca (goodIn_r _ [13, 14, 15, 16, 17, 4, 18, 19, 20, 21, 22, 23, 6, 24, 34, 35, 36, 37, 38, 39, 40, 41, 42, 43, 44] rfl (by decide +kernel)) (goodIn_sub (fun _ h => List.mem_cons_of_mem _ (List.mem_append_right _ h)) (by decide +kernel))
set_option maxRecDepth 20000 in
theorem gX2_rootByRounds_X2_rootOf : GoodIn wsX2_rootByRounds (wsV RX2 112 RX2 yX2_rootOf wsX2_rootOf) := goodIn_app (goodIn_of _ (by decide +kernel)) ggX2_rootByRounds_X2_rootOf
set_option maxRecDepth 20000 in
theorem ggX2_rootByRounds_X2_tells : GoodIn wsX2_rootByRounds wsX2_tells := goodIn_r _ [28, 29, 34, 35, 36, 37, 38, 39, 40, 41, 42, 43, 44] rfl (by decide +kernel)
set_option maxRecDepth 20000 in
theorem gX2_rootByRounds_X2_tells : GoodIn wsX2_rootByRounds (wsV RX2 59 RX2 yX2_tells wsX2_tells) := goodIn_app (goodIn_of _ (by decide +kernel)) ggX2_rootByRounds_X2_tells
set_option maxRecDepth 20000 in
theorem ggX2_rootByRounds_X2_fails : GoodIn wsX2_rootByRounds wsX2_fails := goodIn_r _ [33, 29, 34, 35, 36, 37, 38, 39, 40, 41, 42, 43, 44] rfl (by decide +kernel)
set_option maxRecDepth 20000 in
theorem gX2_rootByRounds_X2_fails : GoodIn wsX2_rootByRounds (wsV RX2 56 RX2 yX2_fails wsX2_fails) := goodIn_app (goodIn_of _ (by decide +kernel)) ggX2_rootByRounds_X2_fails
theorem dX2_rootByRounds_0 : decode cX2_rootByRounds 0 = .ok (.aload_n 0, 1) := by decide +kernel
theorem dX2_rootByRounds_1 : decode cX2_rootByRounds 1 = .ok (.iload_n 1, 1) := by decide +kernel
theorem dX2_rootByRounds_2 : decode cX2_rootByRounds 2 = .ok (.invokevirtual 48, 3) := by decide +kernel
theorem dX2_rootByRounds_5 : decode cX2_rootByRounds 5 = .ok (.ifCond .eq 15, 3) := by decide +kernel
theorem dX2_rootByRounds_8 : decode cX2_rootByRounds 8 = .ok (.aload_n 0, 1) := by decide +kernel
theorem dX2_rootByRounds_9 : decode cX2_rootByRounds 9 = .ok (.aload_n 0, 1) := by decide +kernel
theorem dX2_rootByRounds_10 : decode cX2_rootByRounds 10 = .ok (.iload_n 1, 1) := by decide +kernel
theorem dX2_rootByRounds_11 : decode cX2_rootByRounds 11 = .ok (.invokevirtual 112, 3) := by decide +kernel
theorem dX2_rootByRounds_14 : decode cX2_rootByRounds 14 = .ok (.invokevirtual 59, 3) := by decide +kernel
theorem dX2_rootByRounds_17 : decode cX2_rootByRounds 17 = .ok (.goto 8, 3) := by decide +kernel
theorem dX2_rootByRounds_20 : decode cX2_rootByRounds 20 = .ok (.aload_n 0, 1) := by decide +kernel
theorem dX2_rootByRounds_21 : decode cX2_rootByRounds 21 = .ok (.iconst 1, 1) := by decide +kernel
theorem dX2_rootByRounds_22 : decode cX2_rootByRounds 22 = .ok (.invokevirtual 56, 3) := by decide +kernel
theorem dX2_rootByRounds_25 : decode cX2_rootByRounds 25 = .ok (.ireturn, 1) := by decide +kernel
set_option maxRecDepth 20000 in
theorem ggX2_heads_X2_rootOf : GoodIn wsX2_heads wsX2_rootOf := goodIn_ca (goodIn_r _ [6, 7, 8, 9, 10, 5, 11, 12, 13, 14, 15, 16, 1, 17, 18, 19, 20, 21, 22, 23, 24, 25, 26, 27, 28] rfl (by decide +kernel)) (goodIn_sub (fun _ h => List.mem_cons_of_mem _ (List.mem_append_right _ h)) (by decide +kernel))
set_option maxRecDepth 20000 in
theorem gX2_heads_X2_rootOf : GoodIn wsX2_heads (wsV RX2 112 RX2 yX2_rootOf wsX2_rootOf) := goodIn_app (goodIn_of _ (by decide +kernel)) ggX2_heads_X2_rootOf
theorem dX2_heads_0 : decode cX2_heads 0 = .ok (.iconst 0, 1) := by decide +kernel
theorem dX2_heads_1 : decode cX2_heads 1 = .ok (.istore_n 1, 1) := by decide +kernel
theorem dX2_heads_2 : decode cX2_heads 2 = .ok (.iconst 0, 1) := by decide +kernel
theorem dX2_heads_3 : decode cX2_heads 3 = .ok (.istore_n 2, 1) := by decide +kernel
theorem dX2_heads_4 : decode cX2_heads 4 = .ok (.iload_n 2, 1) := by decide +kernel
theorem dX2_heads_5 : decode cX2_heads 5 = .ok (.aload_n 0, 1) := by decide +kernel
theorem dX2_heads_6 : decode cX2_heads 6 = .ok (.getfield 41, 3) := by decide +kernel
theorem dX2_heads_9 : decode cX2_heads 9 = .ok (.if_icmp .ge 26, 3) := by decide +kernel
theorem dX2_heads_12 : decode cX2_heads 12 = .ok (.iload_n 1, 1) := by decide +kernel
theorem dX2_heads_13 : decode cX2_heads 13 = .ok (.aload_n 0, 1) := by decide +kernel
theorem dX2_heads_14 : decode cX2_heads 14 = .ok (.iload_n 2, 1) := by decide +kernel
theorem dX2_heads_15 : decode cX2_heads 15 = .ok (.invokevirtual 112, 3) := by decide +kernel
theorem dX2_heads_18 : decode cX2_heads 18 = .ok (.iload_n 2, 1) := by decide +kernel
theorem dX2_heads_19 : decode cX2_heads 19 = .ok (.if_icmp .ne 7, 3) := by decide +kernel
theorem dX2_heads_22 : decode cX2_heads 22 = .ok (.iconst 1, 1) := by decide +kernel
theorem dX2_heads_23 : decode cX2_heads 23 = .ok (.goto 4, 3) := by decide +kernel
theorem dX2_heads_26 : decode cX2_heads 26 = .ok (.iconst 0, 1) := by decide +kernel
theorem dX2_heads_27 : decode cX2_heads 27 = .ok (.iadd, 1) := by decide +kernel
theorem dX2_heads_28 : decode cX2_heads 28 = .ok (.istore_n 1, 1) := by decide +kernel
theorem dX2_heads_29 : decode cX2_heads 29 = .ok (.iinc 2 1, 3) := by decide +kernel
theorem dX2_heads_32 : decode cX2_heads 32 = .ok (.goto (-28), 3) := by decide +kernel
theorem dX2_heads_35 : decode cX2_heads 35 = .ok (.iload_n 1, 1) := by decide +kernel
theorem dX2_heads_36 : decode cX2_heads 36 = .ok (.ireturn, 1) := by decide +kernel
set_option maxRecDepth 20000 in
theorem ggX2_threads_X2_heads : GoodIn wsX2_threads wsX2_heads := goodIn_ca (goodIn_r _ [5, 6, 7, 8, 9, 4, 10, 11, 12, 13, 14, 15, 16, 17, 18, 19, 20, 21, 27, 28, 29, 30, 31, 32, 33, 34, 35, 36, 37] rfl (by decide +kernel)) (goodIn_sub (fun _ h => List.mem_cons_of_mem _ (List.mem_append_right _ h)) (by decide +kernel))
set_option maxRecDepth 20000 in
theorem gX2_threads_X2_heads : GoodIn wsX2_threads (wsV RX2 115 RX2 yX2_heads wsX2_heads) := goodIn_app (goodIn_of _ (by decide +kernel)) ggX2_threads_X2_heads
set_option maxRecDepth 20000 in
theorem ggX2_threads_X2_tells : GoodIn wsX2_threads wsX2_tells := goodIn_r _ [25, 26, 27, 28, 29, 30, 31, 32, 33, 34, 35, 36, 37] rfl (by decide +kernel)
set_option maxRecDepth 20000 in
theorem gX2_threads_X2_tells : GoodIn wsX2_threads (wsV RX2 59 RX2 yX2_tells wsX2_tells) := goodIn_app (goodIn_of _ (by decide +kernel)) ggX2_threads_X2_tells
theorem dX2_threads_0 : decode cX2_threads 0 = .ok (.aload_n 0, 1) := by decide +kernel
theorem dX2_threads_1 : decode cX2_threads 1 = .ok (.aload_n 0, 1) := by decide +kernel
theorem dX2_threads_2 : decode cX2_threads 2 = .ok (.invokevirtual 115, 3) := by decide +kernel
theorem dX2_threads_5 : decode cX2_threads 5 = .ok (.invokevirtual 59, 3) := by decide +kernel
theorem dX2_threads_8 : decode cX2_threads 8 = .ok (.ireturn, 1) := by decide +kernel
set_option maxRecDepth 20000 in
theorem ggX2_size_X2_isMail : GoodIn wsX2_size wsX2_isMail := goodIn_r _ [6, 1, 7, 8, 5, 9, 34, 35, 36, 37, 38, 39, 40, 41, 42, 43, 44] rfl (by decide +kernel)
set_option maxRecDepth 20000 in
theorem gX2_size_X2_isMail : GoodIn wsX2_size (wsV RX2 48 RX2 yX2_isMail wsX2_isMail) := goodIn_app (goodIn_of _ (by decide +kernel)) ggX2_size_X2_isMail
set_option maxRecDepth 20000 in
theorem ggX2_size_X2_fails : GoodIn wsX2_size wsX2_fails := goodIn_r _ [13, 14, 34, 35, 36, 37, 38, 39, 40, 41, 42, 43, 44] rfl (by decide +kernel)
set_option maxRecDepth 20000 in
theorem gX2_size_X2_fails : GoodIn wsX2_size (wsV RX2 56 RX2 yX2_fails wsX2_fails) := goodIn_app (goodIn_of _ (by decide +kernel)) ggX2_size_X2_fails
set_option maxRecDepth 20000 in
theorem ggX2_size_X2_rootOf : GoodIn wsX2_size wsX2_rootOf := goodIn_ca (goodIn_r _ [18, 19, 20, 21, 22, 5, 23, 24, 25, 26, 27, 28, 1, 29, 34, 35, 36, 37, 38, 39, 40, 41, 42, 43, 44] rfl (by decide +kernel)) (goodIn_sub (fun _ h => List.mem_cons_of_mem _ (List.mem_append_right _ h)) (by decide +kernel))
set_option maxRecDepth 20000 in
theorem gX2_size_X2_rootOf : GoodIn wsX2_size (wsV RX2 112 RX2 yX2_rootOf wsX2_rootOf) := goodIn_app (goodIn_of _ (by decide +kernel)) ggX2_size_X2_rootOf
set_option maxRecDepth 20000 in
theorem ggX2_size_X2_tells : GoodIn wsX2_size wsX2_tells := goodIn_r _ [33, 14, 34, 35, 36, 37, 38, 39, 40, 41, 42, 43, 44] rfl (by decide +kernel)
set_option maxRecDepth 20000 in
theorem gX2_size_X2_tells : GoodIn wsX2_size (wsV RX2 59 RX2 yX2_tells wsX2_tells) := goodIn_app (goodIn_of _ (by decide +kernel)) ggX2_size_X2_tells
theorem dX2_size_0 : decode cX2_size 0 = .ok (.aload_n 0, 1) := by decide +kernel
theorem dX2_size_1 : decode cX2_size 1 = .ok (.iload_n 1, 1) := by decide +kernel
theorem dX2_size_2 : decode cX2_size 2 = .ok (.invokevirtual 48, 3) := by decide +kernel
theorem dX2_size_5 : decode cX2_size 5 = .ok (.ifCond .ne 9, 3) := by decide +kernel
theorem dX2_size_8 : decode cX2_size 8 = .ok (.aload_n 0, 1) := by decide +kernel
theorem dX2_size_9 : decode cX2_size 9 = .ok (.iconst 1, 1) := by decide +kernel
theorem dX2_size_10 : decode cX2_size 10 = .ok (.invokevirtual 56, 3) := by decide +kernel
theorem dX2_size_13 : decode cX2_size 13 = .ok (.ireturn, 1) := by decide +kernel
theorem dX2_size_14 : decode cX2_size 14 = .ok (.iconst 0, 1) := by decide +kernel
theorem dX2_size_15 : decode cX2_size 15 = .ok (.istore_n 2, 1) := by decide +kernel
theorem dX2_size_16 : decode cX2_size 16 = .ok (.iconst 0, 1) := by decide +kernel
theorem dX2_size_17 : decode cX2_size 17 = .ok (.istore_n 3, 1) := by decide +kernel
theorem dX2_size_18 : decode cX2_size 18 = .ok (.iload_n 3, 1) := by decide +kernel
theorem dX2_size_19 : decode cX2_size 19 = .ok (.aload_n 0, 1) := by decide +kernel
theorem dX2_size_20 : decode cX2_size 20 = .ok (.getfield 41, 3) := by decide +kernel
theorem dX2_size_23 : decode cX2_size 23 = .ok (.if_icmp .ge 30, 3) := by decide +kernel
theorem dX2_size_26 : decode cX2_size 26 = .ok (.iload_n 2, 1) := by decide +kernel
theorem dX2_size_27 : decode cX2_size 27 = .ok (.aload_n 0, 1) := by decide +kernel
theorem dX2_size_28 : decode cX2_size 28 = .ok (.iload_n 3, 1) := by decide +kernel
theorem dX2_size_29 : decode cX2_size 29 = .ok (.invokevirtual 112, 3) := by decide +kernel
theorem dX2_size_32 : decode cX2_size 32 = .ok (.aload_n 0, 1) := by decide +kernel
theorem dX2_size_33 : decode cX2_size 33 = .ok (.iload_n 1, 1) := by decide +kernel
theorem dX2_size_34 : decode cX2_size 34 = .ok (.invokevirtual 112, 3) := by decide +kernel
theorem dX2_size_37 : decode cX2_size 37 = .ok (.if_icmp .ne 7, 3) := by decide +kernel
theorem dX2_size_40 : decode cX2_size 40 = .ok (.iconst 1, 1) := by decide +kernel
theorem dX2_size_41 : decode cX2_size 41 = .ok (.goto 4, 3) := by decide +kernel
theorem dX2_size_44 : decode cX2_size 44 = .ok (.iconst 0, 1) := by decide +kernel
theorem dX2_size_45 : decode cX2_size 45 = .ok (.iadd, 1) := by decide +kernel
theorem dX2_size_46 : decode cX2_size 46 = .ok (.istore_n 2, 1) := by decide +kernel
theorem dX2_size_47 : decode cX2_size 47 = .ok (.iinc 3 1, 3) := by decide +kernel
theorem dX2_size_50 : decode cX2_size 50 = .ok (.goto (-32), 3) := by decide +kernel
theorem dX2_size_53 : decode cX2_size 53 = .ok (.aload_n 0, 1) := by decide +kernel
theorem dX2_size_54 : decode cX2_size 54 = .ok (.iload_n 2, 1) := by decide +kernel
theorem dX2_size_55 : decode cX2_size 55 = .ok (.invokevirtual 59, 3) := by decide +kernel
theorem dX2_size_58 : decode cX2_size 58 = .ok (.ireturn, 1) := by decide +kernel
set_option maxRecDepth 20000 in
theorem ggX2_newShare_X2_talkOf : GoodIn wsX2_newShare wsX2_talkOf := goodIn_ca (goodIn_r _ [8, 1, 2, 9, 10, 11, 7, 12, 13, 14, 15, 16, 17, 18, 19, 20, 21, 22, 23, 24, 25, 26, 27, 28, 29, 30, 31, 32, 33, 34, 35, 36, 37, 38, 39, 40, 41, 42, 43, 44, 45, 46, 47, 48, 49, 50, 51, 52, 53, 54, 55, 56, 57, 58, 59, 60, 61, 62, 63, 64, 65, 66] rfl (by decide +kernel)) (goodIn_sub (fun _ h => List.mem_cons_of_mem _ (List.mem_append_right _ h)) (by decide +kernel))
set_option maxRecDepth 20000 in
theorem gX2_newShare_X2_talkOf : GoodIn wsX2_newShare (wsV RX2 108 RX2 yX2_talkOf wsX2_talkOf) := goodIn_app (goodIn_of _ (by decide +kernel)) ggX2_newShare_X2_talkOf
theorem dX2_newShare_0 : decode cX2_newShare 0 = .ok (.iconst 0, 1) := by decide +kernel
theorem dX2_newShare_1 : decode cX2_newShare 1 = .ok (.istore_n 1, 1) := by decide +kernel
theorem dX2_newShare_2 : decode cX2_newShare 2 = .ok (.iconst 0, 1) := by decide +kernel
theorem dX2_newShare_3 : decode cX2_newShare 3 = .ok (.istore_n 2, 1) := by decide +kernel
theorem dX2_newShare_4 : decode cX2_newShare 4 = .ok (.iload_n 2, 1) := by decide +kernel
theorem dX2_newShare_5 : decode cX2_newShare 5 = .ok (.aload_n 0, 1) := by decide +kernel
theorem dX2_newShare_6 : decode cX2_newShare 6 = .ok (.getfield 41, 3) := by decide +kernel
theorem dX2_newShare_9 : decode cX2_newShare 9 = .ok (.if_icmp .ge 18, 3) := by decide +kernel
theorem dX2_newShare_12 : decode cX2_newShare 12 = .ok (.iload_n 1, 1) := by decide +kernel
theorem dX2_newShare_13 : decode cX2_newShare 13 = .ok (.aload_n 0, 1) := by decide +kernel
theorem dX2_newShare_14 : decode cX2_newShare 14 = .ok (.getfield 22, 3) := by decide +kernel
theorem dX2_newShare_17 : decode cX2_newShare 17 = .ok (.iload_n 2, 1) := by decide +kernel
theorem dX2_newShare_18 : decode cX2_newShare 18 = .ok (.iaload, 1) := by decide +kernel
theorem dX2_newShare_19 : decode cX2_newShare 19 = .ok (.iadd, 1) := by decide +kernel
theorem dX2_newShare_20 : decode cX2_newShare 20 = .ok (.istore_n 1, 1) := by decide +kernel
theorem dX2_newShare_21 : decode cX2_newShare 21 = .ok (.iinc 2 1, 3) := by decide +kernel
theorem dX2_newShare_24 : decode cX2_newShare 24 = .ok (.goto (-20), 3) := by decide +kernel
theorem dX2_newShare_27 : decode cX2_newShare 27 = .ok (.aload_n 0, 1) := by decide +kernel
theorem dX2_newShare_28 : decode cX2_newShare 28 = .ok (.iload_n 1, 1) := by decide +kernel
theorem dX2_newShare_29 : decode cX2_newShare 29 = .ok (.ifCond .ne 7, 3) := by decide +kernel
theorem dX2_newShare_32 : decode cX2_newShare 32 = .ok (.iconst 1, 1) := by decide +kernel
theorem dX2_newShare_33 : decode cX2_newShare 33 = .ok (.goto 4, 3) := by decide +kernel
theorem dX2_newShare_36 : decode cX2_newShare 36 = .ok (.iconst 0, 1) := by decide +kernel
theorem dX2_newShare_37 : decode cX2_newShare 37 = .ok (.putfield 37, 3) := by decide +kernel
theorem dX2_newShare_40 : decode cX2_newShare 40 = .ok (.iload_n 1, 1) := by decide +kernel
theorem dX2_newShare_41 : decode cX2_newShare 41 = .ok (.ifCond .ne 7, 3) := by decide +kernel
theorem dX2_newShare_44 : decode cX2_newShare 44 = .ok (.fconst 0, 1) := by decide +kernel
theorem dX2_newShare_45 : decode cX2_newShare 45 = .ok (.goto 11, 3) := by decide +kernel
theorem dX2_newShare_48 : decode cX2_newShare 48 = .ok (.aload_n 0, 1) := by decide +kernel
theorem dX2_newShare_49 : decode cX2_newShare 49 = .ok (.invokevirtual 108, 3) := by decide +kernel
theorem dX2_newShare_52 : decode cX2_newShare 52 = .ok (.i2f, 1) := by decide +kernel
theorem dX2_newShare_53 : decode cX2_newShare 53 = .ok (.iload_n 1, 1) := by decide +kernel
theorem dX2_newShare_54 : decode cX2_newShare 54 = .ok (.i2f, 1) := by decide +kernel
theorem dX2_newShare_55 : decode cX2_newShare 55 = .ok (.fdiv, 1) := by decide +kernel
theorem dX2_newShare_56 : decode cX2_newShare 56 = .ok (.freturn, 1) := by decide +kernel
set_option maxRecDepth 20000 in
theorem ggX2_meanSize_X2_heads : GoodIn wsX2_meanSize wsX2_heads := goodIn_ca (goodIn_r _ [7, 1, 8, 9, 10, 6, 11, 12, 13, 14, 15, 16, 17, 18, 19, 20, 21, 22, 23, 24, 25, 26, 27, 28, 29, 30, 31, 32, 33] rfl (by decide +kernel)) (goodIn_sub (fun _ h => List.mem_cons_of_mem _ (List.mem_append_right _ h)) (by decide +kernel))
set_option maxRecDepth 20000 in
theorem gX2_meanSize_X2_heads : GoodIn wsX2_meanSize (wsV RX2 115 RX2 yX2_heads wsX2_heads) := goodIn_app (goodIn_of _ (by decide +kernel)) ggX2_meanSize_X2_heads
theorem dX2_meanSize_0 : decode cX2_meanSize 0 = .ok (.aload_n 0, 1) := by decide +kernel
theorem dX2_meanSize_1 : decode cX2_meanSize 1 = .ok (.aload_n 0, 1) := by decide +kernel
theorem dX2_meanSize_2 : decode cX2_meanSize 2 = .ok (.getfield 41, 3) := by decide +kernel
theorem dX2_meanSize_5 : decode cX2_meanSize 5 = .ok (.ifCond .ne 7, 3) := by decide +kernel
theorem dX2_meanSize_8 : decode cX2_meanSize 8 = .ok (.iconst 1, 1) := by decide +kernel
theorem dX2_meanSize_9 : decode cX2_meanSize 9 = .ok (.goto 4, 3) := by decide +kernel
theorem dX2_meanSize_12 : decode cX2_meanSize 12 = .ok (.iconst 0, 1) := by decide +kernel
theorem dX2_meanSize_13 : decode cX2_meanSize 13 = .ok (.putfield 37, 3) := by decide +kernel
theorem dX2_meanSize_16 : decode cX2_meanSize 16 = .ok (.aload_n 0, 1) := by decide +kernel
theorem dX2_meanSize_17 : decode cX2_meanSize 17 = .ok (.getfield 41, 3) := by decide +kernel
theorem dX2_meanSize_20 : decode cX2_meanSize 20 = .ok (.ifCond .ne 7, 3) := by decide +kernel
theorem dX2_meanSize_23 : decode cX2_meanSize 23 = .ok (.dconst 0, 1) := by decide +kernel
theorem dX2_meanSize_24 : decode cX2_meanSize 24 = .ok (.goto 14, 3) := by decide +kernel
theorem dX2_meanSize_27 : decode cX2_meanSize 27 = .ok (.aload_n 0, 1) := by decide +kernel
theorem dX2_meanSize_28 : decode cX2_meanSize 28 = .ok (.getfield 41, 3) := by decide +kernel
theorem dX2_meanSize_31 : decode cX2_meanSize 31 = .ok (.i2d, 1) := by decide +kernel
theorem dX2_meanSize_32 : decode cX2_meanSize 32 = .ok (.aload_n 0, 1) := by decide +kernel
theorem dX2_meanSize_33 : decode cX2_meanSize 33 = .ok (.invokevirtual 115, 3) := by decide +kernel
theorem dX2_meanSize_36 : decode cX2_meanSize 36 = .ok (.i2d, 1) := by decide +kernel
theorem dX2_meanSize_37 : decode cX2_meanSize 37 = .ok (.ddiv, 1) := by decide +kernel
theorem dX2_meanSize_38 : decode cX2_meanSize 38 = .ok (.dreturn, 1) := by decide +kernel
