theorem dX0_init_0 : decode cX0_init 0 = .ok (.aload_n 0, 1) := by decide +kernel
theorem dX0_init_1 : decode cX0_init 1 = .ok (.invokespecial 3, 3) := by decide +kernel
theorem dX0_init_4 : decode cX0_init 4 = .ok (.aload_n 0, 1) := by decide +kernel
theorem dX0_init_5 : decode cX0_init 5 = .ok (.bipush 8, 2) := by decide +kernel
theorem dX0_init_7 : decode cX0_init 7 = .ok (.newarray .int, 2) := by decide +kernel
theorem dX0_init_9 : decode cX0_init 9 = .ok (.putfield 9, 3) := by decide +kernel
theorem dX0_init_12 : decode cX0_init 12 = .ok (.aload_n 0, 1) := by decide +kernel
theorem dX0_init_13 : decode cX0_init 13 = .ok (.bipush 8, 2) := by decide +kernel
theorem dX0_init_15 : decode cX0_init 15 = .ok (.newarray .int, 2) := by decide +kernel
theorem dX0_init_17 : decode cX0_init 17 = .ok (.putfield 15, 3) := by decide +kernel
theorem dX0_init_20 : decode cX0_init 20 = .ok (.aload_n 0, 1) := by decide +kernel
theorem dX0_init_21 : decode cX0_init 21 = .ok (.bipush 9, 2) := by decide +kernel
theorem dX0_init_23 : decode cX0_init 23 = .ok (.bipush 9, 2) := by decide +kernel
theorem dX0_init_25 : decode cX0_init 25 = .ok (.multianewarray 18 2, 4) := by decide +kernel
theorem dX0_init_29 : decode cX0_init 29 = .ok (.putfield 20, 3) := by decide +kernel
theorem dX0_init_32 : decode cX0_init 32 = .ok (.return_, 1) := by decide +kernel
theorem dX0_clear_0 : decode cX0_clear 0 = .ok (.iconst 0, 1) := by decide +kernel
theorem dX0_clear_1 : decode cX0_clear 1 = .ok (.istore_n 1, 1) := by decide +kernel
theorem dX0_clear_2 : decode cX0_clear 2 = .ok (.iload_n 1, 1) := by decide +kernel
theorem dX0_clear_3 : decode cX0_clear 3 = .ok (.bipush 8, 2) := by decide +kernel
theorem dX0_clear_5 : decode cX0_clear 5 = .ok (.if_icmp .ge 24, 3) := by decide +kernel
theorem dX0_clear_8 : decode cX0_clear 8 = .ok (.aload_n 0, 1) := by decide +kernel
theorem dX0_clear_9 : decode cX0_clear 9 = .ok (.getfield 9, 3) := by decide +kernel
theorem dX0_clear_12 : decode cX0_clear 12 = .ok (.iload_n 1, 1) := by decide +kernel
theorem dX0_clear_13 : decode cX0_clear 13 = .ok (.iconst (-1), 1) := by decide +kernel
theorem dX0_clear_14 : decode cX0_clear 14 = .ok (.iastore, 1) := by decide +kernel
theorem dX0_clear_15 : decode cX0_clear 15 = .ok (.aload_n 0, 1) := by decide +kernel
theorem dX0_clear_16 : decode cX0_clear 16 = .ok (.getfield 15, 3) := by decide +kernel
theorem dX0_clear_19 : decode cX0_clear 19 = .ok (.iload_n 1, 1) := by decide +kernel
theorem dX0_clear_20 : decode cX0_clear 20 = .ok (.bipush (-2), 2) := by decide +kernel
theorem dX0_clear_22 : decode cX0_clear 22 = .ok (.iastore, 1) := by decide +kernel
theorem dX0_clear_23 : decode cX0_clear 23 = .ok (.iinc 1 1, 3) := by decide +kernel
theorem dX0_clear_26 : decode cX0_clear 26 = .ok (.goto (-24), 3) := by decide +kernel
theorem dX0_clear_29 : decode cX0_clear 29 = .ok (.return_, 1) := by decide +kernel
set_option maxRecDepth 20000 in
theorem ggX0_putLine_X1_isWithin : GoodIn wsX0_putLine wsX1_isWithin := goodIn_r _ [4] rfl (by decide +kernel)
set_option maxRecDepth 20000 in
theorem gX0_putLine_X1_isWithin_n23 : GoodIn wsX0_putLine (wsX1_isWithin) := ggX0_putLine_X1_isWithin
set_option maxRecDepth 20000 in
theorem ggX0_putLine_X0_markedWord : GoodIn wsX0_putLine wsX0_markedWord := goodIn_r _ [8] rfl (by decide +kernel)
set_option maxRecDepth 20000 in
theorem gX0_putLine_X0_markedWord : GoodIn wsX0_putLine (va_wsS RX0 27 yX0_markedWord wsX0_markedWord) := goodIn_app (goodIn_of _ (by decide +kernel)) ggX0_putLine_X0_markedWord
theorem dX0_putLine_0 : decode cX0_putLine 0 = .ok (.iload_n 1, 1) := by decide +kernel
theorem dX0_putLine_1 : decode cX0_putLine 1 = .ok (.iconst 0, 1) := by decide +kernel
theorem dX0_putLine_2 : decode cX0_putLine 2 = .ok (.bipush 7, 2) := by decide +kernel
theorem dX0_putLine_4 : decode cX0_putLine 4 = .ok (.invokestatic 23, 3) := by decide +kernel
theorem dX0_putLine_7 : decode cX0_putLine 7 = .ok (.ifCond .eq 24, 3) := by decide +kernel
theorem dX0_putLine_10 : decode cX0_putLine 10 = .ok (.aload_n 0, 1) := by decide +kernel
theorem dX0_putLine_11 : decode cX0_putLine 11 = .ok (.getfield 9, 3) := by decide +kernel
theorem dX0_putLine_14 : decode cX0_putLine 14 = .ok (.iload_n 1, 1) := by decide +kernel
theorem dX0_putLine_15 : decode cX0_putLine 15 = .ok (.iload_n 2, 1) := by decide +kernel
theorem dX0_putLine_16 : decode cX0_putLine 16 = .ok (.ifCond .ne 7, 3) := by decide +kernel
theorem dX0_putLine_19 : decode cX0_putLine 19 = .ok (.iconst (-1), 1) := by decide +kernel
theorem dX0_putLine_20 : decode cX0_putLine 20 = .ok (.goto 10, 3) := by decide +kernel
theorem dX0_putLine_23 : decode cX0_putLine 23 = .ok (.iload_n 2, 1) := by decide +kernel
theorem dX0_putLine_24 : decode cX0_putLine 24 = .ok (.iconst 1, 1) := by decide +kernel
theorem dX0_putLine_25 : decode cX0_putLine 25 = .ok (.isub, 1) := by decide +kernel
theorem dX0_putLine_26 : decode cX0_putLine 26 = .ok (.iload_n 3, 1) := by decide +kernel
theorem dX0_putLine_27 : decode cX0_putLine 27 = .ok (.invokestatic 27, 3) := by decide +kernel
theorem dX0_putLine_30 : decode cX0_putLine 30 = .ok (.iastore, 1) := by decide +kernel
theorem dX0_putLine_31 : decode cX0_putLine 31 = .ok (.return_, 1) := by decide +kernel
set_option maxRecDepth 20000 in
theorem ggX0_putParentLine_X1_isWithin : GoodIn wsX0_putParentLine wsX1_isWithin := goodIn_r _ [4] rfl (by decide +kernel)
set_option maxRecDepth 20000 in
theorem gX0_putParentLine_X1_isWithin_n23 : GoodIn wsX0_putParentLine (wsX1_isWithin) := ggX0_putParentLine_X1_isWithin
set_option maxRecDepth 20000 in
theorem ggX0_putParentLine_X0_markedWord : GoodIn wsX0_putParentLine wsX0_markedWord := goodIn_r _ [8] rfl (by decide +kernel)
set_option maxRecDepth 20000 in
theorem gX0_putParentLine_X0_markedWord : GoodIn wsX0_putParentLine (va_wsS RX0 27 yX0_markedWord wsX0_markedWord) := goodIn_app (goodIn_of _ (by decide +kernel)) ggX0_putParentLine_X0_markedWord
theorem dX0_putParentLine_0 : decode cX0_putParentLine 0 = .ok (.iload_n 1, 1) := by decide +kernel
theorem dX0_putParentLine_1 : decode cX0_putParentLine 1 = .ok (.iconst 0, 1) := by decide +kernel
theorem dX0_putParentLine_2 : decode cX0_putParentLine 2 = .ok (.bipush 7, 2) := by decide +kernel
theorem dX0_putParentLine_4 : decode cX0_putParentLine 4 = .ok (.invokestatic 23, 3) := by decide +kernel
theorem dX0_putParentLine_7 : decode cX0_putParentLine 7 = .ok (.ifCond .eq 14, 3) := by decide +kernel
theorem dX0_putParentLine_10 : decode cX0_putParentLine 10 = .ok (.aload_n 0, 1) := by decide +kernel
theorem dX0_putParentLine_11 : decode cX0_putParentLine 11 = .ok (.getfield 15, 3) := by decide +kernel
theorem dX0_putParentLine_14 : decode cX0_putParentLine 14 = .ok (.iload_n 1, 1) := by decide +kernel
theorem dX0_putParentLine_15 : decode cX0_putParentLine 15 = .ok (.iload_n 2, 1) := by decide +kernel
theorem dX0_putParentLine_16 : decode cX0_putParentLine 16 = .ok (.iload_n 3, 1) := by decide +kernel
theorem dX0_putParentLine_17 : decode cX0_putParentLine 17 = .ok (.invokestatic 27, 3) := by decide +kernel
theorem dX0_putParentLine_20 : decode cX0_putParentLine 20 = .ok (.iastore, 1) := by decide +kernel
theorem dX0_putParentLine_21 : decode cX0_putParentLine 21 = .ok (.return_, 1) := by decide +kernel
theorem dX0_markedWord_0 : decode cX0_markedWord 0 = .ok (.iload_n 0, 1) := by decide +kernel
theorem dX0_markedWord_1 : decode cX0_markedWord 1 = .ok (.bipush 100, 2) := by decide +kernel
theorem dX0_markedWord_3 : decode cX0_markedWord 3 = .ok (.imul, 1) := by decide +kernel
theorem dX0_markedWord_4 : decode cX0_markedWord 4 = .ok (.iload_n 1, 1) := by decide +kernel
theorem dX0_markedWord_5 : decode cX0_markedWord 5 = .ok (.iadd, 1) := by decide +kernel
theorem dX0_markedWord_6 : decode cX0_markedWord 6 = .ok (.ireturn, 1) := by decide +kernel
theorem dX0_fillTable_0 : decode cX0_fillTable 0 = .ok (.bipush 7, 2) := by decide +kernel
theorem dX0_fillTable_2 : decode cX0_fillTable 2 = .ok (.istore_n 1, 1) := by decide +kernel
theorem dX0_fillTable_3 : decode cX0_fillTable 3 = .ok (.iload_n 1, 1) := by decide +kernel
theorem dX0_fillTable_4 : decode cX0_fillTable 4 = .ok (.ifCond .lt 89, 3) := by decide +kernel
theorem dX0_fillTable_7 : decode cX0_fillTable 7 = .ok (.bipush 7, 2) := by decide +kernel
theorem dX0_fillTable_9 : decode cX0_fillTable 9 = .ok (.istore_n 2, 1) := by decide +kernel
theorem dX0_fillTable_10 : decode cX0_fillTable 10 = .ok (.iload_n 2, 1) := by decide +kernel
theorem dX0_fillTable_11 : decode cX0_fillTable 11 = .ok (.ifCond .lt 76, 3) := by decide +kernel
theorem dX0_fillTable_14 : decode cX0_fillTable 14 = .ok (.aload_n 0, 1) := by decide +kernel
theorem dX0_fillTable_15 : decode cX0_fillTable 15 = .ok (.getfield 20, 3) := by decide +kernel
theorem dX0_fillTable_18 : decode cX0_fillTable 18 = .ok (.iload_n 1, 1) := by decide +kernel
theorem dX0_fillTable_19 : decode cX0_fillTable 19 = .ok (.iconst 1, 1) := by decide +kernel
theorem dX0_fillTable_20 : decode cX0_fillTable 20 = .ok (.iadd, 1) := by decide +kernel
theorem dX0_fillTable_21 : decode cX0_fillTable 21 = .ok (.aaload, 1) := by decide +kernel
theorem dX0_fillTable_22 : decode cX0_fillTable 22 = .ok (.iload_n 2, 1) := by decide +kernel
theorem dX0_fillTable_23 : decode cX0_fillTable 23 = .ok (.iaload, 1) := by decide +kernel
theorem dX0_fillTable_24 : decode cX0_fillTable 24 = .ok (.aload_n 0, 1) := by decide +kernel
theorem dX0_fillTable_25 : decode cX0_fillTable 25 = .ok (.getfield 20, 3) := by decide +kernel
theorem dX0_fillTable_28 : decode cX0_fillTable 28 = .ok (.iload_n 1, 1) := by decide +kernel
theorem dX0_fillTable_29 : decode cX0_fillTable 29 = .ok (.aaload, 1) := by decide +kernel
theorem dX0_fillTable_30 : decode cX0_fillTable 30 = .ok (.iload_n 2, 1) := by decide +kernel
theorem dX0_fillTable_31 : decode cX0_fillTable 31 = .ok (.iconst 1, 1) := by decide +kernel
theorem dX0_fillTable_32 : decode cX0_fillTable 32 = .ok (.iadd, 1) := by decide +kernel
theorem dX0_fillTable_33 : decode cX0_fillTable 33 = .ok (.iaload, 1) := by decide +kernel
theorem dX0_fillTable_34 : decode cX0_fillTable 34 = .ok (.invokestatic 31, 3) := by decide +kernel
theorem dX0_fillTable_37 : decode cX0_fillTable 37 = .ok (.istore_n 3, 1) := by decide +kernel
theorem dX0_fillTable_38 : decode cX0_fillTable 38 = .ok (.aload_n 0, 1) := by decide +kernel
theorem dX0_fillTable_39 : decode cX0_fillTable 39 = .ok (.getfield 9, 3) := by decide +kernel
theorem dX0_fillTable_42 : decode cX0_fillTable 42 = .ok (.iload_n 1, 1) := by decide +kernel
theorem dX0_fillTable_43 : decode cX0_fillTable 43 = .ok (.iaload, 1) := by decide +kernel
theorem dX0_fillTable_44 : decode cX0_fillTable 44 = .ok (.aload_n 0, 1) := by decide +kernel
theorem dX0_fillTable_45 : decode cX0_fillTable 45 = .ok (.getfield 15, 3) := by decide +kernel
theorem dX0_fillTable_48 : decode cX0_fillTable 48 = .ok (.iload_n 2, 1) := by decide +kernel
theorem dX0_fillTable_49 : decode cX0_fillTable 49 = .ok (.iaload, 1) := by decide +kernel
theorem dX0_fillTable_50 : decode cX0_fillTable 50 = .ok (.if_icmp .ne 22, 3) := by decide +kernel
theorem dX0_fillTable_53 : decode cX0_fillTable 53 = .ok (.iload_n 3, 1) := by decide +kernel
theorem dX0_fillTable_54 : decode cX0_fillTable 54 = .ok (.iconst 1, 1) := by decide +kernel
theorem dX0_fillTable_55 : decode cX0_fillTable 55 = .ok (.aload_n 0, 1) := by decide +kernel
theorem dX0_fillTable_56 : decode cX0_fillTable 56 = .ok (.getfield 20, 3) := by decide +kernel
theorem dX0_fillTable_59 : decode cX0_fillTable 59 = .ok (.iload_n 1, 1) := by decide +kernel
theorem dX0_fillTable_60 : decode cX0_fillTable 60 = .ok (.iconst 1, 1) := by decide +kernel
theorem dX0_fillTable_61 : decode cX0_fillTable 61 = .ok (.iadd, 1) := by decide +kernel
theorem dX0_fillTable_62 : decode cX0_fillTable 62 = .ok (.aaload, 1) := by decide +kernel
theorem dX0_fillTable_63 : decode cX0_fillTable 63 = .ok (.iload_n 2, 1) := by decide +kernel
theorem dX0_fillTable_64 : decode cX0_fillTable 64 = .ok (.iconst 1, 1) := by decide +kernel
theorem dX0_fillTable_65 : decode cX0_fillTable 65 = .ok (.iadd, 1) := by decide +kernel
theorem dX0_fillTable_66 : decode cX0_fillTable 66 = .ok (.iaload, 1) := by decide +kernel
theorem dX0_fillTable_67 : decode cX0_fillTable 67 = .ok (.iadd, 1) := by decide +kernel
theorem dX0_fillTable_68 : decode cX0_fillTable 68 = .ok (.invokestatic 31, 3) := by decide +kernel
theorem dX0_fillTable_71 : decode cX0_fillTable 71 = .ok (.istore_n 3, 1) := by decide +kernel
theorem dX0_fillTable_72 : decode cX0_fillTable 72 = .ok (.aload_n 0, 1) := by decide +kernel
theorem dX0_fillTable_73 : decode cX0_fillTable 73 = .ok (.getfield 20, 3) := by decide +kernel
theorem dX0_fillTable_76 : decode cX0_fillTable 76 = .ok (.iload_n 1, 1) := by decide +kernel
theorem dX0_fillTable_77 : decode cX0_fillTable 77 = .ok (.aaload, 1) := by decide +kernel
theorem dX0_fillTable_78 : decode cX0_fillTable 78 = .ok (.iload_n 2, 1) := by decide +kernel
theorem dX0_fillTable_79 : decode cX0_fillTable 79 = .ok (.iload_n 3, 1) := by decide +kernel
theorem dX0_fillTable_80 : decode cX0_fillTable 80 = .ok (.iastore, 1) := by decide +kernel
theorem dX0_fillTable_81 : decode cX0_fillTable 81 = .ok (.iinc 2 (-1), 3) := by decide +kernel
theorem dX0_fillTable_84 : decode cX0_fillTable 84 = .ok (.goto (-74), 3) := by decide +kernel
theorem dX0_fillTable_87 : decode cX0_fillTable 87 = .ok (.iinc 1 (-1), 3) := by decide +kernel
theorem dX0_fillTable_90 : decode cX0_fillTable 90 = .ok (.goto (-87), 3) := by decide +kernel
theorem dX0_fillTable_93 : decode cX0_fillTable 93 = .ok (.return_, 1) := by decide +kernel
theorem dX0_mostPartners_0 : decode cX0_mostPartners 0 = .ok (.aload_n 0, 1) := by decide +kernel
theorem dX0_mostPartners_1 : decode cX0_mostPartners 1 = .ok (.getfield 20, 3) := by decide +kernel
theorem dX0_mostPartners_4 : decode cX0_mostPartners 4 = .ok (.iconst 0, 1) := by decide +kernel
theorem dX0_mostPartners_5 : decode cX0_mostPartners 5 = .ok (.aaload, 1) := by decide +kernel
theorem dX0_mostPartners_6 : decode cX0_mostPartners 6 = .ok (.iconst 0, 1) := by decide +kernel
theorem dX0_mostPartners_7 : decode cX0_mostPartners 7 = .ok (.iaload, 1) := by decide +kernel
theorem dX0_mostPartners_8 : decode cX0_mostPartners 8 = .ok (.ireturn, 1) := by decide +kernel
set_option maxRecDepth 20000 in
theorem ggX0_earliestPartner_X1_isWithin : GoodIn wsX0_earliestPartner wsX1_isWithin := goodIn_r _ [6] rfl (by decide +kernel)
set_option maxRecDepth 20000 in
theorem gX0_earliestPartner_X1_isWithin_n23 : GoodIn wsX0_earliestPartner (wsX1_isWithin) := ggX0_earliestPartner_X1_isWithin
theorem dX0_earliestPartner_0 : decode cX0_earliestPartner 0 = .ok (.iload_n 1, 1) := by decide +kernel
theorem dX0_earliestPartner_1 : decode cX0_earliestPartner 1 = .ok (.iconst 0, 1) := by decide +kernel
theorem dX0_earliestPartner_2 : decode cX0_earliestPartner 2 = .ok (.bipush 7, 2) := by decide +kernel
theorem dX0_earliestPartner_4 : decode cX0_earliestPartner 4 = .ok (.invokestatic 23, 3) := by decide +kernel
theorem dX0_earliestPartner_7 : decode cX0_earliestPartner 7 = .ok (.ifCond .eq 13, 3) := by decide +kernel
theorem dX0_earliestPartner_10 : decode cX0_earliestPartner 10 = .ok (.iload_n 2, 1) := by decide +kernel
theorem dX0_earliestPartner_11 : decode cX0_earliestPartner 11 = .ok (.iconst 0, 1) := by decide +kernel
theorem dX0_earliestPartner_12 : decode cX0_earliestPartner 12 = .ok (.bipush 7, 2) := by decide +kernel
theorem dX0_earliestPartner_14 : decode cX0_earliestPartner 14 = .ok (.invokestatic 23, 3) := by decide +kernel
theorem dX0_earliestPartner_17 : decode cX0_earliestPartner 17 = .ok (.ifCond .ne 5, 3) := by decide +kernel
theorem dX0_earliestPartner_20 : decode cX0_earliestPartner 20 = .ok (.iconst (-1), 1) := by decide +kernel
theorem dX0_earliestPartner_21 : decode cX0_earliestPartner 21 = .ok (.ireturn, 1) := by decide +kernel
theorem dX0_earliestPartner_22 : decode cX0_earliestPartner 22 = .ok (.iload_n 2, 1) := by decide +kernel
theorem dX0_earliestPartner_23 : decode cX0_earliestPartner 23 = .ok (.istore_n 3, 1) := by decide +kernel
theorem dX0_earliestPartner_24 : decode cX0_earliestPartner 24 = .ok (.iload_n 3, 1) := by decide +kernel
theorem dX0_earliestPartner_25 : decode cX0_earliestPartner 25 = .ok (.bipush 8, 2) := by decide +kernel
theorem dX0_earliestPartner_27 : decode cX0_earliestPartner 27 = .ok (.if_icmp .ge 51, 3) := by decide +kernel
theorem dX0_earliestPartner_30 : decode cX0_earliestPartner 30 = .ok (.aload_n 0, 1) := by decide +kernel
theorem dX0_earliestPartner_31 : decode cX0_earliestPartner 31 = .ok (.getfield 9, 3) := by decide +kernel
theorem dX0_earliestPartner_34 : decode cX0_earliestPartner 34 = .ok (.iload_n 1, 1) := by decide +kernel
theorem dX0_earliestPartner_35 : decode cX0_earliestPartner 35 = .ok (.iaload, 1) := by decide +kernel
theorem dX0_earliestPartner_36 : decode cX0_earliestPartner 36 = .ok (.aload_n 0, 1) := by decide +kernel
theorem dX0_earliestPartner_37 : decode cX0_earliestPartner 37 = .ok (.getfield 15, 3) := by decide +kernel
theorem dX0_earliestPartner_40 : decode cX0_earliestPartner 40 = .ok (.iload_n 3, 1) := by decide +kernel
theorem dX0_earliestPartner_41 : decode cX0_earliestPartner 41 = .ok (.iaload, 1) := by decide +kernel
theorem dX0_earliestPartner_42 : decode cX0_earliestPartner 42 = .ok (.if_icmp .ne 30, 3) := by decide +kernel
theorem dX0_earliestPartner_45 : decode cX0_earliestPartner 45 = .ok (.iconst 1, 1) := by decide +kernel
theorem dX0_earliestPartner_46 : decode cX0_earliestPartner 46 = .ok (.aload_n 0, 1) := by decide +kernel
theorem dX0_earliestPartner_47 : decode cX0_earliestPartner 47 = .ok (.getfield 20, 3) := by decide +kernel
theorem dX0_earliestPartner_50 : decode cX0_earliestPartner 50 = .ok (.iload_n 1, 1) := by decide +kernel
theorem dX0_earliestPartner_51 : decode cX0_earliestPartner 51 = .ok (.iconst 1, 1) := by decide +kernel
theorem dX0_earliestPartner_52 : decode cX0_earliestPartner 52 = .ok (.iadd, 1) := by decide +kernel
theorem dX0_earliestPartner_53 : decode cX0_earliestPartner 53 = .ok (.aaload, 1) := by decide +kernel
theorem dX0_earliestPartner_54 : decode cX0_earliestPartner 54 = .ok (.iload_n 3, 1) := by decide +kernel
theorem dX0_earliestPartner_55 : decode cX0_earliestPartner 55 = .ok (.iconst 1, 1) := by decide +kernel
theorem dX0_earliestPartner_56 : decode cX0_earliestPartner 56 = .ok (.iadd, 1) := by decide +kernel
theorem dX0_earliestPartner_57 : decode cX0_earliestPartner 57 = .ok (.iaload, 1) := by decide +kernel
theorem dX0_earliestPartner_58 : decode cX0_earliestPartner 58 = .ok (.iadd, 1) := by decide +kernel
theorem dX0_earliestPartner_59 : decode cX0_earliestPartner 59 = .ok (.aload_n 0, 1) := by decide +kernel
theorem dX0_earliestPartner_60 : decode cX0_earliestPartner 60 = .ok (.getfield 20, 3) := by decide +kernel
theorem dX0_earliestPartner_63 : decode cX0_earliestPartner 63 = .ok (.iload_n 1, 1) := by decide +kernel
theorem dX0_earliestPartner_64 : decode cX0_earliestPartner 64 = .ok (.aaload, 1) := by decide +kernel
theorem dX0_earliestPartner_65 : decode cX0_earliestPartner 65 = .ok (.iload_n 2, 1) := by decide +kernel
theorem dX0_earliestPartner_66 : decode cX0_earliestPartner 66 = .ok (.iaload, 1) := by decide +kernel
theorem dX0_earliestPartner_67 : decode cX0_earliestPartner 67 = .ok (.if_icmp .ne 5, 3) := by decide +kernel
theorem dX0_earliestPartner_70 : decode cX0_earliestPartner 70 = .ok (.iload_n 3, 1) := by decide +kernel
theorem dX0_earliestPartner_71 : decode cX0_earliestPartner 71 = .ok (.ireturn, 1) := by decide +kernel
theorem dX0_earliestPartner_72 : decode cX0_earliestPartner 72 = .ok (.iinc 3 1, 3) := by decide +kernel
theorem dX0_earliestPartner_75 : decode cX0_earliestPartner 75 = .ok (.goto (-51), 3) := by decide +kernel
theorem dX0_earliestPartner_78 : decode cX0_earliestPartner 78 = .ok (.iconst (-1), 1) := by decide +kernel
theorem dX0_earliestPartner_79 : decode cX0_earliestPartner 79 = .ok (.ireturn, 1) := by decide +kernel
set_option maxRecDepth 20000 in
theorem ggX0_mostPartnersByTrying_X0_tryFrom : GoodIn wsX0_mostPartnersByTrying wsX0_tryFrom := goodIn_ca (goodIn_r _ [6, 7, 8, 9, 10, 3, 4, 5] rfl (by decide +kernel)) (goodIn_sub (fun _ h => List.mem_cons_of_mem _ (List.mem_append_right _ h)) (by decide +kernel))
set_option maxRecDepth 20000 in
theorem gX0_mostPartnersByTrying_X0_tryFrom : GoodIn wsX0_mostPartnersByTrying (va_wsS RX0 36 yX0_tryFrom wsX0_tryFrom) := goodIn_app (goodIn_of _ (by decide +kernel)) ggX0_mostPartnersByTrying_X0_tryFrom
theorem dX0_mostPartnersByTrying_0 : decode cX0_mostPartnersByTrying 0 = .ok (.aload_n 0, 1) := by decide +kernel
theorem dX0_mostPartnersByTrying_1 : decode cX0_mostPartnersByTrying 1 = .ok (.getfield 9, 3) := by decide +kernel
theorem dX0_mostPartnersByTrying_4 : decode cX0_mostPartnersByTrying 4 = .ok (.aload_n 0, 1) := by decide +kernel
theorem dX0_mostPartnersByTrying_5 : decode cX0_mostPartnersByTrying 5 = .ok (.getfield 15, 3) := by decide +kernel
theorem dX0_mostPartnersByTrying_8 : decode cX0_mostPartnersByTrying 8 = .ok (.iconst 0, 1) := by decide +kernel
theorem dX0_mostPartnersByTrying_9 : decode cX0_mostPartnersByTrying 9 = .ok (.iconst 0, 1) := by decide +kernel
theorem dX0_mostPartnersByTrying_10 : decode cX0_mostPartnersByTrying 10 = .ok (.invokestatic 36, 3) := by decide +kernel
theorem dX0_mostPartnersByTrying_13 : decode cX0_mostPartnersByTrying 13 = .ok (.ireturn, 1) := by decide +kernel
set_option maxRecDepth 20000 in
theorem ggX0_tryFrom_X0_tryFrom : GoodIn wsX0_tryFrom wsX0_tryFrom := goodIn_ca (goodIn_r _ [0, 1, 2, 3, 4, 5, 6, 7] rfl (by decide +kernel)) (goodIn_sub (fun _ h => List.mem_cons_of_mem _ (List.mem_append_right _ h)) (by decide +kernel))
set_option maxRecDepth 20000 in
theorem gX0_tryFrom_X0_tryFrom : GoodIn wsX0_tryFrom (va_wsS RX0 36 yX0_tryFrom wsX0_tryFrom) := goodIn_app (goodIn_of _ (by decide +kernel)) ggX0_tryFrom_X0_tryFrom
theorem dX0_tryFrom_0 : decode cX0_tryFrom 0 = .ok (.iload_n 2, 1) := by decide +kernel
theorem dX0_tryFrom_1 : decode cX0_tryFrom 1 = .ok (.bipush 8, 2) := by decide +kernel
theorem dX0_tryFrom_3 : decode cX0_tryFrom 3 = .ok (.if_icmp .lt 5, 3) := by decide +kernel
theorem dX0_tryFrom_6 : decode cX0_tryFrom 6 = .ok (.iconst 0, 1) := by decide +kernel
theorem dX0_tryFrom_7 : decode cX0_tryFrom 7 = .ok (.ireturn, 1) := by decide +kernel
theorem dX0_tryFrom_8 : decode cX0_tryFrom 8 = .ok (.aload_n 0, 1) := by decide +kernel
theorem dX0_tryFrom_9 : decode cX0_tryFrom 9 = .ok (.aload_n 1, 1) := by decide +kernel
theorem dX0_tryFrom_10 : decode cX0_tryFrom 10 = .ok (.iload_n 2, 1) := by decide +kernel
theorem dX0_tryFrom_11 : decode cX0_tryFrom 11 = .ok (.iconst 1, 1) := by decide +kernel
theorem dX0_tryFrom_12 : decode cX0_tryFrom 12 = .ok (.iadd, 1) := by decide +kernel
theorem dX0_tryFrom_13 : decode cX0_tryFrom 13 = .ok (.iload_n 3, 1) := by decide +kernel
theorem dX0_tryFrom_14 : decode cX0_tryFrom 14 = .ok (.invokestatic 36, 3) := by decide +kernel
theorem dX0_tryFrom_17 : decode cX0_tryFrom 17 = .ok (.istore 4, 2) := by decide +kernel
theorem dX0_tryFrom_19 : decode cX0_tryFrom 19 = .ok (.iload_n 3, 1) := by decide +kernel
theorem dX0_tryFrom_20 : decode cX0_tryFrom 20 = .ok (.istore 5, 2) := by decide +kernel
theorem dX0_tryFrom_22 : decode cX0_tryFrom 22 = .ok (.iload 5, 2) := by decide +kernel
theorem dX0_tryFrom_24 : decode cX0_tryFrom 24 = .ok (.bipush 8, 2) := by decide +kernel
theorem dX0_tryFrom_26 : decode cX0_tryFrom 26 = .ok (.if_icmp .ge 40, 3) := by decide +kernel
theorem dX0_tryFrom_29 : decode cX0_tryFrom 29 = .ok (.aload_n 0, 1) := by decide +kernel
theorem dX0_tryFrom_30 : decode cX0_tryFrom 30 = .ok (.iload_n 2, 1) := by decide +kernel
theorem dX0_tryFrom_31 : decode cX0_tryFrom 31 = .ok (.iaload, 1) := by decide +kernel
theorem dX0_tryFrom_32 : decode cX0_tryFrom 32 = .ok (.aload_n 1, 1) := by decide +kernel
theorem dX0_tryFrom_33 : decode cX0_tryFrom 33 = .ok (.iload 5, 2) := by decide +kernel
theorem dX0_tryFrom_35 : decode cX0_tryFrom 35 = .ok (.iaload, 1) := by decide +kernel
theorem dX0_tryFrom_36 : decode cX0_tryFrom 36 = .ok (.if_icmp .ne 24, 3) := by decide +kernel
theorem dX0_tryFrom_39 : decode cX0_tryFrom 39 = .ok (.iload 4, 2) := by decide +kernel
theorem dX0_tryFrom_41 : decode cX0_tryFrom 41 = .ok (.iconst 1, 1) := by decide +kernel
theorem dX0_tryFrom_42 : decode cX0_tryFrom 42 = .ok (.aload_n 0, 1) := by decide +kernel
theorem dX0_tryFrom_43 : decode cX0_tryFrom 43 = .ok (.aload_n 1, 1) := by decide +kernel
theorem dX0_tryFrom_44 : decode cX0_tryFrom 44 = .ok (.iload_n 2, 1) := by decide +kernel
theorem dX0_tryFrom_45 : decode cX0_tryFrom 45 = .ok (.iconst 1, 1) := by decide +kernel
theorem dX0_tryFrom_46 : decode cX0_tryFrom 46 = .ok (.iadd, 1) := by decide +kernel
theorem dX0_tryFrom_47 : decode cX0_tryFrom 47 = .ok (.iload 5, 2) := by decide +kernel
theorem dX0_tryFrom_49 : decode cX0_tryFrom 49 = .ok (.iconst 1, 1) := by decide +kernel
theorem dX0_tryFrom_50 : decode cX0_tryFrom 50 = .ok (.iadd, 1) := by decide +kernel
theorem dX0_tryFrom_51 : decode cX0_tryFrom 51 = .ok (.invokestatic 36, 3) := by decide +kernel
theorem dX0_tryFrom_54 : decode cX0_tryFrom 54 = .ok (.iadd, 1) := by decide +kernel
theorem dX0_tryFrom_55 : decode cX0_tryFrom 55 = .ok (.invokestatic 31, 3) := by decide +kernel
theorem dX0_tryFrom_58 : decode cX0_tryFrom 58 = .ok (.istore 4, 2) := by decide +kernel
theorem dX0_tryFrom_60 : decode cX0_tryFrom 60 = .ok (.iinc 5 1, 3) := by decide +kernel
theorem dX0_tryFrom_63 : decode cX0_tryFrom 63 = .ok (.goto (-41), 3) := by decide +kernel
theorem dX0_tryFrom_66 : decode cX0_tryFrom 66 = .ok (.iload 4, 2) := by decide +kernel
theorem dX0_tryFrom_68 : decode cX0_tryFrom 68 = .ok (.ireturn, 1) := by decide +kernel
