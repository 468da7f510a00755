theorem dX3_init_0 : decode cX3_init 0 = .ok (.aload_n 0, 1) := by decide +kernel
theorem dX3_init_1 : decode cX3_init 1 = .ok (.invokespecial 1, 3) := by decide +kernel
theorem dX3_init_4 : decode cX3_init 4 = .ok (.aload_n 0, 1) := by decide +kernel
theorem dX3_init_5 : decode cX3_init 5 = .ok (.bipush 42, 2) := by decide +kernel
theorem dX3_init_7 : decode cX3_init 7 = .ok (.newarray .int, 2) := by decide +kernel
theorem dX3_init_9 : decode cX3_init 9 = .ok (.putfield 7, 3) := by decide +kernel
theorem dX3_init_12 : decode cX3_init 12 = .ok (.aload_n 0, 1) := by decide +kernel
theorem dX3_init_13 : decode cX3_init 13 = .ok (.bipush 42, 2) := by decide +kernel
theorem dX3_init_15 : decode cX3_init 15 = .ok (.newarray .int, 2) := by decide +kernel
theorem dX3_init_17 : decode cX3_init 17 = .ok (.putfield 13, 3) := by decide +kernel
theorem dX3_init_20 : decode cX3_init 20 = .ok (.aload_n 0, 1) := by decide +kernel
theorem dX3_init_21 : decode cX3_init 21 = .ok (.iconst (-1), 1) := by decide +kernel
theorem dX3_init_22 : decode cX3_init 22 = .ok (.putfield 16, 3) := by decide +kernel
theorem dX3_init_25 : decode cX3_init 25 = .ok (.aload_n 0, 1) := by decide +kernel
theorem dX3_init_26 : decode cX3_init 26 = .ok (.iconst (-1), 1) := by decide +kernel
theorem dX3_init_27 : decode cX3_init 27 = .ok (.putfield 20, 3) := by decide +kernel
theorem dX3_init_30 : decode cX3_init 30 = .ok (.aload_n 0, 1) := by decide +kernel
theorem dX3_init_31 : decode cX3_init 31 = .ok (.iconst 2, 1) := by decide +kernel
theorem dX3_init_32 : decode cX3_init 32 = .ok (.newarray .int, 2) := by decide +kernel
theorem dX3_init_34 : decode cX3_init 34 = .ok (.putfield 23, 3) := by decide +kernel
theorem dX3_init_37 : decode cX3_init 37 = .ok (.aload_n 0, 1) := by decide +kernel
theorem dX3_init_38 : decode cX3_init 38 = .ok (.iconst 2, 1) := by decide +kernel
theorem dX3_init_39 : decode cX3_init 39 = .ok (.newarray .int, 2) := by decide +kernel
theorem dX3_init_41 : decode cX3_init 41 = .ok (.putfield 26, 3) := by decide +kernel
theorem dX3_init_44 : decode cX3_init 44 = .ok (.aload_n 0, 1) := by decide +kernel
theorem dX3_init_45 : decode cX3_init 45 = .ok (.iconst 2, 1) := by decide +kernel
theorem dX3_init_46 : decode cX3_init 46 = .ok (.newarray .int, 2) := by decide +kernel
theorem dX3_init_48 : decode cX3_init 48 = .ok (.putfield 29, 3) := by decide +kernel
theorem dX3_init_51 : decode cX3_init 51 = .ok (.aload_n 0, 1) := by decide +kernel
theorem dX3_init_52 : decode cX3_init 52 = .ok (.iconst 2, 1) := by decide +kernel
theorem dX3_init_53 : decode cX3_init 53 = .ok (.newarray .int, 2) := by decide +kernel
theorem dX3_init_55 : decode cX3_init 55 = .ok (.putfield 32, 3) := by decide +kernel
theorem dX3_init_58 : decode cX3_init 58 = .ok (.aload_n 0, 1) := by decide +kernel
theorem dX3_init_59 : decode cX3_init 59 = .ok (.bipush 12, 2) := by decide +kernel
theorem dX3_init_61 : decode cX3_init 61 = .ok (.newarray .int, 2) := by decide +kernel
theorem dX3_init_63 : decode cX3_init 63 = .ok (.putfield 35, 3) := by decide +kernel
theorem dX3_init_66 : decode cX3_init 66 = .ok (.aload_n 0, 1) := by decide +kernel
theorem dX3_init_67 : decode cX3_init 67 = .ok (.sipush 8192, 3) := by decide +kernel
theorem dX3_init_70 : decode cX3_init 70 = .ok (.newarray .int, 2) := by decide +kernel
theorem dX3_init_72 : decode cX3_init 72 = .ok (.putfield 38, 3) := by decide +kernel
theorem dX3_init_75 : decode cX3_init 75 = .ok (.return_, 1) := by decide +kernel
theorem dX3_thrown_0 : decode cX3_thrown 0 = .ok (.aload_n 0, 1) := by decide +kernel
theorem dX3_thrown_1 : decode cX3_thrown 1 = .ok (.getfield 41, 3) := by decide +kernel
theorem dX3_thrown_4 : decode cX3_thrown 4 = .ok (.ireturn, 1) := by decide +kernel
theorem dX3_isCard_0 : decode cX3_isCard 0 = .ok (.iload_n 0, 1) := by decide +kernel
theorem dX3_isCard_1 : decode cX3_isCard 1 = .ok (.ifCond .lt 13, 3) := by decide +kernel
theorem dX3_isCard_4 : decode cX3_isCard 4 = .ok (.iload_n 0, 1) := by decide +kernel
theorem dX3_isCard_5 : decode cX3_isCard 5 = .ok (.bipush 42, 2) := by decide +kernel
theorem dX3_isCard_7 : decode cX3_isCard 7 = .ok (.if_icmp .ge 7, 3) := by decide +kernel
theorem dX3_isCard_10 : decode cX3_isCard 10 = .ok (.iconst 1, 1) := by decide +kernel
theorem dX3_isCard_11 : decode cX3_isCard 11 = .ok (.goto 4, 3) := by decide +kernel
theorem dX3_isCard_14 : decode cX3_isCard 14 = .ok (.iconst 0, 1) := by decide +kernel
theorem dX3_isCard_15 : decode cX3_isCard 15 = .ok (.ireturn, 1) := by decide +kernel
theorem dX3_isArchivist_0 : decode cX3_isArchivist 0 = .ok (.iload_n 0, 1) := by decide +kernel
theorem dX3_isArchivist_1 : decode cX3_isArchivist 1 = .ok (.ifCond .eq 8, 3) := by decide +kernel
theorem dX3_isArchivist_4 : decode cX3_isArchivist 4 = .ok (.iload_n 0, 1) := by decide +kernel
theorem dX3_isArchivist_5 : decode cX3_isArchivist 5 = .ok (.iconst 1, 1) := by decide +kernel
theorem dX3_isArchivist_6 : decode cX3_isArchivist 6 = .ok (.if_icmp .ne 7, 3) := by decide +kernel
theorem dX3_isArchivist_9 : decode cX3_isArchivist 9 = .ok (.iconst 1, 1) := by decide +kernel
theorem dX3_isArchivist_10 : decode cX3_isArchivist 10 = .ok (.goto 4, 3) := by decide +kernel
theorem dX3_isArchivist_13 : decode cX3_isArchivist 13 = .ok (.iconst 0, 1) := by decide +kernel
theorem dX3_isArchivist_14 : decode cX3_isArchivist 14 = .ok (.ireturn, 1) := by decide +kernel
theorem dX3_isMildew_0 : decode cX3_isMildew 0 = .ok (.iload_n 0, 1) := by decide +kernel
theorem dX3_isMildew_1 : decode cX3_isMildew 1 = .ok (.bipush 40, 2) := by decide +kernel
theorem dX3_isMildew_3 : decode cX3_isMildew 3 = .ok (.if_icmp .lt 7, 3) := by decide +kernel
theorem dX3_isMildew_6 : decode cX3_isMildew 6 = .ok (.iconst 1, 1) := by decide +kernel
theorem dX3_isMildew_7 : decode cX3_isMildew 7 = .ok (.goto 4, 3) := by decide +kernel
theorem dX3_isMildew_10 : decode cX3_isMildew 10 = .ok (.iconst 0, 1) := by decide +kernel
theorem dX3_isMildew_11 : decode cX3_isMildew 11 = .ok (.ireturn, 1) := by decide +kernel
theorem dX3_provenance_0 : decode cX3_provenance 0 = .ok (.iload_n 0, 1) := by decide +kernel
theorem dX3_provenance_1 : decode cX3_provenance 1 = .ok (.bipush 10, 2) := by decide +kernel
theorem dX3_provenance_3 : decode cX3_provenance 3 = .ok (.idiv, 1) := by decide +kernel
theorem dX3_provenance_4 : decode cX3_provenance 4 = .ok (.ireturn, 1) := by decide +kernel
set_option maxRecDepth 20000 in
theorem ggX3_isTrump_X3_isMildew : GoodIn wsX3_isTrump wsX3_isMildew := goodIn_r _ [5] (by decide +kernel) (by decide +kernel)
set_option maxRecDepth 20000 in
theorem gX3_isTrump_X3_isMildew : GoodIn wsX3_isTrump (va_wsS RX3 44 yX3_isMildew wsX3_isMildew) := goodIn_app (goodIn_of _ (by decide +kernel)) ggX3_isTrump_X3_isMildew
set_option maxRecDepth 20000 in
theorem ggX3_isTrump_X3_provenance : GoodIn wsX3_isTrump wsX3_provenance := goodIn_r _ [8] (by decide +kernel) (by decide +kernel)
set_option maxRecDepth 20000 in
theorem gX3_isTrump_X3_provenance : GoodIn wsX3_isTrump (va_wsS RX3 48 yX3_provenance wsX3_provenance) := goodIn_app (goodIn_of _ (by decide +kernel)) ggX3_isTrump_X3_provenance
theorem dX3_isTrump_0 : decode cX3_isTrump 0 = .ok (.iload_n 1, 1) := by decide +kernel
theorem dX3_isTrump_1 : decode cX3_isTrump 1 = .ok (.invokestatic 44, 3) := by decide +kernel
theorem dX3_isTrump_4 : decode cX3_isTrump 4 = .ok (.ifCond .ne 18, 3) := by decide +kernel
theorem dX3_isTrump_7 : decode cX3_isTrump 7 = .ok (.iload_n 1, 1) := by decide +kernel
theorem dX3_isTrump_8 : decode cX3_isTrump 8 = .ok (.invokestatic 48, 3) := by decide +kernel
theorem dX3_isTrump_11 : decode cX3_isTrump 11 = .ok (.aload_n 0, 1) := by decide +kernel
theorem dX3_isTrump_12 : decode cX3_isTrump 12 = .ok (.getfield 20, 3) := by decide +kernel
theorem dX3_isTrump_15 : decode cX3_isTrump 15 = .ok (.if_icmp .ne 7, 3) := by decide +kernel
theorem dX3_isTrump_18 : decode cX3_isTrump 18 = .ok (.iconst 1, 1) := by decide +kernel
theorem dX3_isTrump_19 : decode cX3_isTrump 19 = .ok (.goto 4, 3) := by decide +kernel
theorem dX3_isTrump_22 : decode cX3_isTrump 22 = .ok (.iconst 0, 1) := by decide +kernel
theorem dX3_isTrump_23 : decode cX3_isTrump 23 = .ok (.ireturn, 1) := by decide +kernel
set_option maxRecDepth 20000 in
theorem ggX3_worth_X3_isMildew : GoodIn wsX3_worth wsX3_isMildew := goodIn_r _ [4] (by decide +kernel) (by decide +kernel)
set_option maxRecDepth 20000 in
theorem gX3_worth_X3_isMildew : GoodIn wsX3_worth (va_wsS RX3 44 yX3_isMildew wsX3_isMildew) := goodIn_app (goodIn_of _ (by decide +kernel)) ggX3_worth_X3_isMildew
theorem dX3_worth_0 : decode cX3_worth 0 = .ok (.iload_n 0, 1) := by decide +kernel
theorem dX3_worth_1 : decode cX3_worth 1 = .ok (.invokestatic 44, 3) := by decide +kernel
theorem dX3_worth_4 : decode cX3_worth 4 = .ok (.ifCond .eq 8, 3) := by decide +kernel
theorem dX3_worth_7 : decode cX3_worth 7 = .ok (.bipush (-5), 2) := by decide +kernel
theorem dX3_worth_9 : decode cX3_worth 9 = .ok (.goto 10, 3) := by decide +kernel
theorem dX3_worth_12 : decode cX3_worth 12 = .ok (.bipush 10, 2) := by decide +kernel
theorem dX3_worth_14 : decode cX3_worth 14 = .ok (.iload_n 0, 1) := by decide +kernel
theorem dX3_worth_15 : decode cX3_worth 15 = .ok (.bipush 10, 2) := by decide +kernel
theorem dX3_worth_17 : decode cX3_worth 17 = .ok (.irem, 1) := by decide +kernel
theorem dX3_worth_18 : decode cX3_worth 18 = .ok (.isub, 1) := by decide +kernel
theorem dX3_worth_19 : decode cX3_worth 19 = .ok (.ireturn, 1) := by decide +kernel
set_option maxRecDepth 20000 in
theorem ggX3_worthTo_X3_isMildew : GoodIn wsX3_worthTo wsX3_isMildew := goodIn_r _ [4] (by decide +kernel) (by decide +kernel)
set_option maxRecDepth 20000 in
theorem gX3_worthTo_X3_isMildew : GoodIn wsX3_worthTo (va_wsS RX3 44 yX3_isMildew wsX3_isMildew) := goodIn_app (goodIn_of _ (by decide +kernel)) ggX3_worthTo_X3_isMildew
set_option maxRecDepth 20000 in
theorem ggX3_worthTo_X3_worth : GoodIn wsX3_worthTo wsX3_worth := goodIn_r _ [7, 1, 2, 3, 4] (by decide +kernel) (by decide +kernel)
set_option maxRecDepth 20000 in
theorem gX3_worthTo_X3_worth : GoodIn wsX3_worthTo (va_wsS RX3 52 yX3_worth wsX3_worth) := goodIn_app (goodIn_of _ (by decide +kernel)) ggX3_worthTo_X3_worth
theorem dX3_worthTo_0 : decode cX3_worthTo 0 = .ok (.iload_n 1, 1) := by decide +kernel
theorem dX3_worthTo_1 : decode cX3_worthTo 1 = .ok (.ifCond .eq 14, 3) := by decide +kernel
theorem dX3_worthTo_4 : decode cX3_worthTo 4 = .ok (.iload_n 0, 1) := by decide +kernel
theorem dX3_worthTo_5 : decode cX3_worthTo 5 = .ok (.invokestatic 44, 3) := by decide +kernel
theorem dX3_worthTo_8 : decode cX3_worthTo 8 = .ok (.ifCond .eq 7, 3) := by decide +kernel
theorem dX3_worthTo_11 : decode cX3_worthTo 11 = .ok (.iconst 0, 1) := by decide +kernel
theorem dX3_worthTo_12 : decode cX3_worthTo 12 = .ok (.goto 7, 3) := by decide +kernel
theorem dX3_worthTo_15 : decode cX3_worthTo 15 = .ok (.iload_n 0, 1) := by decide +kernel
theorem dX3_worthTo_16 : decode cX3_worthTo 16 = .ok (.invokestatic 52, 3) := by decide +kernel
theorem dX3_worthTo_19 : decode cX3_worthTo 19 = .ok (.ireturn, 1) := by decide +kernel
set_option maxRecDepth 20000 in
theorem ggX3_takes_X3_isMildew : GoodIn wsX3_takes wsX3_isMildew := goodIn_r _ [4] (by decide +kernel) (by decide +kernel)
set_option maxRecDepth 20000 in
theorem gX3_takes_X3_isMildew : GoodIn wsX3_takes (va_wsS RX3 44 yX3_isMildew wsX3_isMildew) := goodIn_app (goodIn_of _ (by decide +kernel)) ggX3_takes_X3_isMildew
set_option maxRecDepth 20000 in
theorem ggX3_takes_X3_provenance : GoodIn wsX3_takes wsX3_provenance := goodIn_r _ [7] (by decide +kernel) (by decide +kernel)
set_option maxRecDepth 20000 in
theorem gX3_takes_X3_provenance : GoodIn wsX3_takes (va_wsS RX3 48 yX3_provenance wsX3_provenance) := goodIn_app (goodIn_of _ (by decide +kernel)) ggX3_takes_X3_provenance
set_option maxRecDepth 20000 in
theorem ggX3_takes_X3_isTrump : GoodIn wsX3_takes wsX3_isTrump := goodIn_r _ [11, 12, 1, 2, 3, 4, 5, 6, 7, 13, 14, 15, 16, 17, 18, 19, 20, 21, 22, 23, 24, 25, 26, 27] (by decide +kernel) (by decide +kernel)
set_option maxRecDepth 20000 in
theorem gX3_takes_X3_isTrump : GoodIn wsX3_takes (wsV RX3 55 RX3 yX3_isTrump wsX3_isTrump) := goodIn_app (goodIn_of _ (by decide +kernel)) ggX3_takes_X3_isTrump
theorem dX3_takes_0 : decode cX3_takes 0 = .ok (.iload_n 2, 1) := by decide +kernel
theorem dX3_takes_1 : decode cX3_takes 1 = .ok (.invokestatic 44, 3) := by decide +kernel
theorem dX3_takes_4 : decode cX3_takes 4 = .ok (.ifCond .ne 10, 3) := by decide +kernel
theorem dX3_takes_7 : decode cX3_takes 7 = .ok (.iload_n 1, 1) := by decide +kernel
theorem dX3_takes_8 : decode cX3_takes 8 = .ok (.invokestatic 44, 3) := by decide +kernel
theorem dX3_takes_11 : decode cX3_takes 11 = .ok (.ifCond .eq 23, 3) := by decide +kernel
theorem dX3_takes_14 : decode cX3_takes 14 = .ok (.iload_n 2, 1) := by decide +kernel
theorem dX3_takes_15 : decode cX3_takes 15 = .ok (.invokestatic 44, 3) := by decide +kernel
theorem dX3_takes_18 : decode cX3_takes 18 = .ok (.ifCond .eq 14, 3) := by decide +kernel
theorem dX3_takes_21 : decode cX3_takes 21 = .ok (.iload_n 1, 1) := by decide +kernel
theorem dX3_takes_22 : decode cX3_takes 22 = .ok (.invokestatic 44, 3) := by decide +kernel
theorem dX3_takes_25 : decode cX3_takes 25 = .ok (.ifCond .ne 7, 3) := by decide +kernel
theorem dX3_takes_28 : decode cX3_takes 28 = .ok (.iconst 1, 1) := by decide +kernel
theorem dX3_takes_29 : decode cX3_takes 29 = .ok (.goto 4, 3) := by decide +kernel
theorem dX3_takes_32 : decode cX3_takes 32 = .ok (.iconst 0, 1) := by decide +kernel
theorem dX3_takes_33 : decode cX3_takes 33 = .ok (.ireturn, 1) := by decide +kernel
theorem dX3_takes_34 : decode cX3_takes 34 = .ok (.iload_n 2, 1) := by decide +kernel
theorem dX3_takes_35 : decode cX3_takes 35 = .ok (.invokestatic 48, 3) := by decide +kernel
theorem dX3_takes_38 : decode cX3_takes 38 = .ok (.iload_n 1, 1) := by decide +kernel
theorem dX3_takes_39 : decode cX3_takes 39 = .ok (.invokestatic 48, 3) := by decide +kernel
theorem dX3_takes_42 : decode cX3_takes 42 = .ok (.if_icmp .ne 20, 3) := by decide +kernel
theorem dX3_takes_45 : decode cX3_takes 45 = .ok (.iload_n 1, 1) := by decide +kernel
theorem dX3_takes_46 : decode cX3_takes 46 = .ok (.bipush 10, 2) := by decide +kernel
theorem dX3_takes_48 : decode cX3_takes 48 = .ok (.irem, 1) := by decide +kernel
theorem dX3_takes_49 : decode cX3_takes 49 = .ok (.iload_n 2, 1) := by decide +kernel
theorem dX3_takes_50 : decode cX3_takes 50 = .ok (.bipush 10, 2) := by decide +kernel
theorem dX3_takes_52 : decode cX3_takes 52 = .ok (.irem, 1) := by decide +kernel
theorem dX3_takes_53 : decode cX3_takes 53 = .ok (.if_icmp .ge 7, 3) := by decide +kernel
theorem dX3_takes_56 : decode cX3_takes 56 = .ok (.iconst 1, 1) := by decide +kernel
theorem dX3_takes_57 : decode cX3_takes 57 = .ok (.goto 4, 3) := by decide +kernel
theorem dX3_takes_60 : decode cX3_takes 60 = .ok (.iconst 0, 1) := by decide +kernel
theorem dX3_takes_61 : decode cX3_takes 61 = .ok (.ireturn, 1) := by decide +kernel
theorem dX3_takes_62 : decode cX3_takes 62 = .ok (.aload_n 0, 1) := by decide +kernel
theorem dX3_takes_63 : decode cX3_takes 63 = .ok (.iload_n 1, 1) := by decide +kernel
theorem dX3_takes_64 : decode cX3_takes 64 = .ok (.invokevirtual 55, 3) := by decide +kernel
theorem dX3_takes_67 : decode cX3_takes 67 = .ok (.ifCond .eq 15, 3) := by decide +kernel
theorem dX3_takes_70 : decode cX3_takes 70 = .ok (.aload_n 0, 1) := by decide +kernel
theorem dX3_takes_71 : decode cX3_takes 71 = .ok (.iload_n 2, 1) := by decide +kernel
theorem dX3_takes_72 : decode cX3_takes 72 = .ok (.invokevirtual 55, 3) := by decide +kernel
theorem dX3_takes_75 : decode cX3_takes 75 = .ok (.ifCond .ne 7, 3) := by decide +kernel
theorem dX3_takes_78 : decode cX3_takes 78 = .ok (.iconst 1, 1) := by decide +kernel
theorem dX3_takes_79 : decode cX3_takes 79 = .ok (.goto 4, 3) := by decide +kernel
theorem dX3_takes_82 : decode cX3_takes 82 = .ok (.iconst 0, 1) := by decide +kernel
theorem dX3_takes_83 : decode cX3_takes 83 = .ok (.ireturn, 1) := by decide +kernel
theorem dX3_inPile_0 : decode cX3_inPile 0 = .ok (.aload_n 0, 1) := by decide +kernel
theorem dX3_inPile_1 : decode cX3_inPile 1 = .ok (.getfield 58, 3) := by decide +kernel
theorem dX3_inPile_4 : decode cX3_inPile 4 = .ok (.ifCond .eq 13, 3) := by decide +kernel
theorem dX3_inPile_7 : decode cX3_inPile 7 = .ok (.bipush 30, 2) := by decide +kernel
theorem dX3_inPile_9 : decode cX3_inPile 9 = .ok (.aload_n 0, 1) := by decide +kernel
theorem dX3_inPile_10 : decode cX3_inPile 10 = .ok (.getfield 62, 3) := by decide +kernel
theorem dX3_inPile_13 : decode cX3_inPile 13 = .ok (.isub, 1) := by decide +kernel
theorem dX3_inPile_14 : decode cX3_inPile 14 = .ok (.goto 4, 3) := by decide +kernel
theorem dX3_inPile_17 : decode cX3_inPile 17 = .ok (.iconst 0, 1) := by decide +kernel
theorem dX3_inPile_18 : decode cX3_inPile 18 = .ok (.ireturn, 1) := by decide +kernel
set_option maxRecDepth 20000 in
theorem ggX3_deal_X3_isMildew : GoodIn wsX3_deal wsX3_isMildew := goodIn_r _ [18] (by decide +kernel) (by decide +kernel)
set_option maxRecDepth 20000 in
theorem gX3_deal_X3_isMildew : GoodIn wsX3_deal (va_wsS RX3 44 yX3_isMildew wsX3_isMildew) := goodIn_app (goodIn_of _ (by decide +kernel)) ggX3_deal_X3_isMildew
set_option maxRecDepth 20000 in
theorem ggX3_deal_X3_provenance : GoodIn wsX3_deal wsX3_provenance := goodIn_r _ [21] (by decide +kernel) (by decide +kernel)
set_option maxRecDepth 20000 in
theorem gX3_deal_X3_provenance : GoodIn wsX3_deal (va_wsS RX3 48 yX3_provenance wsX3_provenance) := goodIn_app (goodIn_of _ (by decide +kernel)) ggX3_deal_X3_provenance
theorem dX3_deal_0 : decode cX3_deal 0 = .ok (.aload_n 0, 1) := by decide +kernel
theorem dX3_deal_1 : decode cX3_deal 1 = .ok (.iconst 0, 1) := by decide +kernel
theorem dX3_deal_2 : decode cX3_deal 2 = .ok (.putfield 41, 3) := by decide +kernel
theorem dX3_deal_5 : decode cX3_deal 5 = .ok (.iconst 0, 1) := by decide +kernel
theorem dX3_deal_6 : decode cX3_deal 6 = .ok (.istore_n 3, 1) := by decide +kernel
theorem dX3_deal_7 : decode cX3_deal 7 = .ok (.iload_n 3, 1) := by decide +kernel
theorem dX3_deal_8 : decode cX3_deal 8 = .ok (.bipush 42, 2) := by decide +kernel
theorem dX3_deal_10 : decode cX3_deal 10 = .ok (.if_icmp .ge 16, 3) := by decide +kernel
theorem dX3_deal_13 : decode cX3_deal 13 = .ok (.aload_n 0, 1) := by decide +kernel
theorem dX3_deal_14 : decode cX3_deal 14 = .ok (.getfield 13, 3) := by decide +kernel
theorem dX3_deal_17 : decode cX3_deal 17 = .ok (.iload_n 3, 1) := by decide +kernel
theorem dX3_deal_18 : decode cX3_deal 18 = .ok (.iload_n 3, 1) := by decide +kernel
theorem dX3_deal_19 : decode cX3_deal 19 = .ok (.iastore, 1) := by decide +kernel
theorem dX3_deal_20 : decode cX3_deal 20 = .ok (.iinc 3 1, 3) := by decide +kernel
theorem dX3_deal_23 : decode cX3_deal 23 = .ok (.goto (-16), 3) := by decide +kernel
theorem dX3_deal_26 : decode cX3_deal 26 = .ok (.lload_n 1, 1) := by decide +kernel
theorem dX3_deal_27 : decode cX3_deal 27 = .ok (.lstore_n 3, 1) := by decide +kernel
theorem dX3_deal_28 : decode cX3_deal 28 = .ok (.bipush 41, 2) := by decide +kernel
theorem dX3_deal_30 : decode cX3_deal 30 = .ok (.istore 5, 2) := by decide +kernel
theorem dX3_deal_32 : decode cX3_deal 32 = .ok (.iload 5, 2) := by decide +kernel
theorem dX3_deal_34 : decode cX3_deal 34 = .ok (.iconst 1, 1) := by decide +kernel
theorem dX3_deal_35 : decode cX3_deal 35 = .ok (.if_icmp .lt 64, 3) := by decide +kernel
theorem dX3_deal_38 : decode cX3_deal 38 = .ok (.lload_n 3, 1) := by decide +kernel
theorem dX3_deal_39 : decode cX3_deal 39 = .ok (.ldc2_w 65, 3) := by decide +kernel
theorem dX3_deal_42 : decode cX3_deal 42 = .ok (.lmul, 1) := by decide +kernel
theorem dX3_deal_43 : decode cX3_deal 43 = .ok (.ldc2_w 67, 3) := by decide +kernel
theorem dX3_deal_46 : decode cX3_deal 46 = .ok (.ladd, 1) := by decide +kernel
theorem dX3_deal_47 : decode cX3_deal 47 = .ok (.lstore_n 3, 1) := by decide +kernel
theorem dX3_deal_48 : decode cX3_deal 48 = .ok (.lload_n 3, 1) := by decide +kernel
theorem dX3_deal_49 : decode cX3_deal 49 = .ok (.bipush 33, 2) := by decide +kernel
theorem dX3_deal_51 : decode cX3_deal 51 = .ok (.lushr, 1) := by decide +kernel
theorem dX3_deal_52 : decode cX3_deal 52 = .ok (.iload 5, 2) := by decide +kernel
theorem dX3_deal_54 : decode cX3_deal 54 = .ok (.i2l, 1) := by decide +kernel
theorem dX3_deal_55 : decode cX3_deal 55 = .ok (.lconst 1, 1) := by decide +kernel
theorem dX3_deal_56 : decode cX3_deal 56 = .ok (.ladd, 1) := by decide +kernel
theorem dX3_deal_57 : decode cX3_deal 57 = .ok (.lrem, 1) := by decide +kernel
theorem dX3_deal_58 : decode cX3_deal 58 = .ok (.l2i, 1) := by decide +kernel
theorem dX3_deal_59 : decode cX3_deal 59 = .ok (.istore 6, 2) := by decide +kernel
theorem dX3_deal_61 : decode cX3_deal 61 = .ok (.aload_n 0, 1) := by decide +kernel
theorem dX3_deal_62 : decode cX3_deal 62 = .ok (.getfield 13, 3) := by decide +kernel
theorem dX3_deal_65 : decode cX3_deal 65 = .ok (.iload 5, 2) := by decide +kernel
theorem dX3_deal_67 : decode cX3_deal 67 = .ok (.iaload, 1) := by decide +kernel
theorem dX3_deal_68 : decode cX3_deal 68 = .ok (.istore 7, 2) := by decide +kernel
theorem dX3_deal_70 : decode cX3_deal 70 = .ok (.aload_n 0, 1) := by decide +kernel
theorem dX3_deal_71 : decode cX3_deal 71 = .ok (.getfield 13, 3) := by decide +kernel
theorem dX3_deal_74 : decode cX3_deal 74 = .ok (.iload 5, 2) := by decide +kernel
theorem dX3_deal_76 : decode cX3_deal 76 = .ok (.aload_n 0, 1) := by decide +kernel
theorem dX3_deal_77 : decode cX3_deal 77 = .ok (.getfield 13, 3) := by decide +kernel
theorem dX3_deal_80 : decode cX3_deal 80 = .ok (.iload 6, 2) := by decide +kernel
theorem dX3_deal_82 : decode cX3_deal 82 = .ok (.iaload, 1) := by decide +kernel
theorem dX3_deal_83 : decode cX3_deal 83 = .ok (.iastore, 1) := by decide +kernel
theorem dX3_deal_84 : decode cX3_deal 84 = .ok (.aload_n 0, 1) := by decide +kernel
theorem dX3_deal_85 : decode cX3_deal 85 = .ok (.getfield 13, 3) := by decide +kernel
theorem dX3_deal_88 : decode cX3_deal 88 = .ok (.iload 6, 2) := by decide +kernel
theorem dX3_deal_90 : decode cX3_deal 90 = .ok (.iload 7, 2) := by decide +kernel
theorem dX3_deal_92 : decode cX3_deal 92 = .ok (.iastore, 1) := by decide +kernel
theorem dX3_deal_93 : decode cX3_deal 93 = .ok (.iinc 5 (-1), 3) := by decide +kernel
theorem dX3_deal_96 : decode cX3_deal 96 = .ok (.goto (-64), 3) := by decide +kernel
theorem dX3_deal_99 : decode cX3_deal 99 = .ok (.iconst 0, 1) := by decide +kernel
theorem dX3_deal_100 : decode cX3_deal 100 = .ok (.istore 5, 2) := by decide +kernel
theorem dX3_deal_102 : decode cX3_deal 102 = .ok (.iload 5, 2) := by decide +kernel
theorem dX3_deal_104 : decode cX3_deal 104 = .ok (.bipush 42, 2) := by decide +kernel
theorem dX3_deal_106 : decode cX3_deal 106 = .ok (.if_icmp .ge 44, 3) := by decide +kernel
theorem dX3_deal_109 : decode cX3_deal 109 = .ok (.aload_n 0, 1) := by decide +kernel
theorem dX3_deal_110 : decode cX3_deal 110 = .ok (.getfield 7, 3) := by decide +kernel
theorem dX3_deal_113 : decode cX3_deal 113 = .ok (.aload_n 0, 1) := by decide +kernel
theorem dX3_deal_114 : decode cX3_deal 114 = .ok (.getfield 13, 3) := by decide +kernel
theorem dX3_deal_117 : decode cX3_deal 117 = .ok (.iload 5, 2) := by decide +kernel
theorem dX3_deal_119 : decode cX3_deal 119 = .ok (.iaload, 1) := by decide +kernel
theorem dX3_deal_120 : decode cX3_deal 120 = .ok (.iload 5, 2) := by decide +kernel
theorem dX3_deal_122 : decode cX3_deal 122 = .ok (.bipush 6, 2) := by decide +kernel
theorem dX3_deal_124 : decode cX3_deal 124 = .ok (.if_icmp .ge 7, 3) := by decide +kernel
theorem dX3_deal_127 : decode cX3_deal 127 = .ok (.iconst 0, 1) := by decide +kernel
theorem dX3_deal_128 : decode cX3_deal 128 = .ok (.goto 15, 3) := by decide +kernel
theorem dX3_deal_131 : decode cX3_deal 131 = .ok (.iload 5, 2) := by decide +kernel
theorem dX3_deal_133 : decode cX3_deal 133 = .ok (.bipush 12, 2) := by decide +kernel
theorem dX3_deal_135 : decode cX3_deal 135 = .ok (.if_icmp .ge 7, 3) := by decide +kernel
theorem dX3_deal_138 : decode cX3_deal 138 = .ok (.iconst 1, 1) := by decide +kernel
theorem dX3_deal_139 : decode cX3_deal 139 = .ok (.goto 4, 3) := by decide +kernel
theorem dX3_deal_142 : decode cX3_deal 142 = .ok (.iconst 2, 1) := by decide +kernel
theorem dX3_deal_143 : decode cX3_deal 143 = .ok (.iastore, 1) := by decide +kernel
theorem dX3_deal_144 : decode cX3_deal 144 = .ok (.iinc 5 1, 3) := by decide +kernel
theorem dX3_deal_147 : decode cX3_deal 147 = .ok (.goto (-45), 3) := by decide +kernel
theorem dX3_deal_150 : decode cX3_deal 150 = .ok (.aload_n 0, 1) := by decide +kernel
theorem dX3_deal_151 : decode cX3_deal 151 = .ok (.aload_n 0, 1) := by decide +kernel
theorem dX3_deal_152 : decode cX3_deal 152 = .ok (.getfield 13, 3) := by decide +kernel
theorem dX3_deal_155 : decode cX3_deal 155 = .ok (.bipush 12, 2) := by decide +kernel
theorem dX3_deal_157 : decode cX3_deal 157 = .ok (.iaload, 1) := by decide +kernel
theorem dX3_deal_158 : decode cX3_deal 158 = .ok (.invokestatic 44, 3) := by decide +kernel
theorem dX3_deal_161 : decode cX3_deal 161 = .ok (.ifCond .eq 7, 3) := by decide +kernel
theorem dX3_deal_164 : decode cX3_deal 164 = .ok (.iconst 0, 1) := by decide +kernel
theorem dX3_deal_165 : decode cX3_deal 165 = .ok (.goto 13, 3) := by decide +kernel
theorem dX3_deal_168 : decode cX3_deal 168 = .ok (.aload_n 0, 1) := by decide +kernel
theorem dX3_deal_169 : decode cX3_deal 169 = .ok (.getfield 13, 3) := by decide +kernel
theorem dX3_deal_172 : decode cX3_deal 172 = .ok (.bipush 12, 2) := by decide +kernel
theorem dX3_deal_174 : decode cX3_deal 174 = .ok (.iaload, 1) := by decide +kernel
theorem dX3_deal_175 : decode cX3_deal 175 = .ok (.invokestatic 48, 3) := by decide +kernel
theorem dX3_deal_178 : decode cX3_deal 178 = .ok (.putfield 20, 3) := by decide +kernel
theorem dX3_deal_181 : decode cX3_deal 181 = .ok (.iconst 0, 1) := by decide +kernel
theorem dX3_deal_182 : decode cX3_deal 182 = .ok (.istore 5, 2) := by decide +kernel
theorem dX3_deal_184 : decode cX3_deal 184 = .ok (.iload 5, 2) := by decide +kernel
theorem dX3_deal_186 : decode cX3_deal 186 = .ok (.iconst 2, 1) := by decide +kernel
theorem dX3_deal_187 : decode cX3_deal 187 = .ok (.if_icmp .ge 33, 3) := by decide +kernel
theorem dX3_deal_190 : decode cX3_deal 190 = .ok (.aload_n 0, 1) := by decide +kernel
theorem dX3_deal_191 : decode cX3_deal 191 = .ok (.getfield 23, 3) := by decide +kernel
theorem dX3_deal_194 : decode cX3_deal 194 = .ok (.iload 5, 2) := by decide +kernel
theorem dX3_deal_196 : decode cX3_deal 196 = .ok (.iconst 0, 1) := by decide +kernel
theorem dX3_deal_197 : decode cX3_deal 197 = .ok (.iastore, 1) := by decide +kernel
theorem dX3_deal_198 : decode cX3_deal 198 = .ok (.aload_n 0, 1) := by decide +kernel
theorem dX3_deal_199 : decode cX3_deal 199 = .ok (.getfield 26, 3) := by decide +kernel
theorem dX3_deal_202 : decode cX3_deal 202 = .ok (.iload 5, 2) := by decide +kernel
theorem dX3_deal_204 : decode cX3_deal 204 = .ok (.iconst 0, 1) := by decide +kernel
theorem dX3_deal_205 : decode cX3_deal 205 = .ok (.iastore, 1) := by decide +kernel
theorem dX3_deal_206 : decode cX3_deal 206 = .ok (.aload_n 0, 1) := by decide +kernel
theorem dX3_deal_207 : decode cX3_deal 207 = .ok (.getfield 29, 3) := by decide +kernel
theorem dX3_deal_210 : decode cX3_deal 210 = .ok (.iload 5, 2) := by decide +kernel
theorem dX3_deal_212 : decode cX3_deal 212 = .ok (.iconst 0, 1) := by decide +kernel
theorem dX3_deal_213 : decode cX3_deal 213 = .ok (.iastore, 1) := by decide +kernel
theorem dX3_deal_214 : decode cX3_deal 214 = .ok (.iinc 5 1, 3) := by decide +kernel
theorem dX3_deal_217 : decode cX3_deal 217 = .ok (.goto (-33), 3) := by decide +kernel
theorem dX3_deal_220 : decode cX3_deal 220 = .ok (.aload_n 0, 1) := by decide +kernel
theorem dX3_deal_221 : decode cX3_deal 221 = .ok (.iconst 0, 1) := by decide +kernel
theorem dX3_deal_222 : decode cX3_deal 222 = .ok (.putfield 62, 3) := by decide +kernel
theorem dX3_deal_225 : decode cX3_deal 225 = .ok (.aload_n 0, 1) := by decide +kernel
theorem dX3_deal_226 : decode cX3_deal 226 = .ok (.iconst 0, 1) := by decide +kernel
theorem dX3_deal_227 : decode cX3_deal 227 = .ok (.putfield 69, 3) := by decide +kernel
theorem dX3_deal_230 : decode cX3_deal 230 = .ok (.aload_n 0, 1) := by decide +kernel
theorem dX3_deal_231 : decode cX3_deal 231 = .ok (.iconst (-1), 1) := by decide +kernel
theorem dX3_deal_232 : decode cX3_deal 232 = .ok (.putfield 16, 3) := by decide +kernel
theorem dX3_deal_235 : decode cX3_deal 235 = .ok (.aload_n 0, 1) := by decide +kernel
theorem dX3_deal_236 : decode cX3_deal 236 = .ok (.iconst 1, 1) := by decide +kernel
theorem dX3_deal_237 : decode cX3_deal 237 = .ok (.putfield 58, 3) := by decide +kernel
theorem dX3_deal_240 : decode cX3_deal 240 = .ok (.aload_n 0, 1) := by decide +kernel
theorem dX3_deal_241 : decode cX3_deal 241 = .ok (.iconst 1, 1) := by decide +kernel
theorem dX3_deal_242 : decode cX3_deal 242 = .ok (.putfield 72, 3) := by decide +kernel
theorem dX3_deal_245 : decode cX3_deal 245 = .ok (.aload_n 0, 1) := by decide +kernel
theorem dX3_deal_246 : decode cX3_deal 246 = .ok (.getfield 20, 3) := by decide +kernel
theorem dX3_deal_249 : decode cX3_deal 249 = .ok (.ireturn, 1) := by decide +kernel
theorem dX3_howMany_0 : decode cX3_howMany 0 = .ok (.iconst 0, 1) := by decide +kernel
theorem dX3_howMany_1 : decode cX3_howMany 1 = .ok (.istore_n 2, 1) := by decide +kernel
theorem dX3_howMany_2 : decode cX3_howMany 2 = .ok (.iconst 0, 1) := by decide +kernel
theorem dX3_howMany_3 : decode cX3_howMany 3 = .ok (.istore_n 3, 1) := by decide +kernel
theorem dX3_howMany_4 : decode cX3_howMany 4 = .ok (.iload_n 3, 1) := by decide +kernel
theorem dX3_howMany_5 : decode cX3_howMany 5 = .ok (.bipush 42, 2) := by decide +kernel
theorem dX3_howMany_7 : decode cX3_howMany 7 = .ok (.if_icmp .ge 34, 3) := by decide +kernel
theorem dX3_howMany_10 : decode cX3_howMany 10 = .ok (.aload_n 0, 1) := by decide +kernel
theorem dX3_howMany_11 : decode cX3_howMany 11 = .ok (.getfield 58, 3) := by decide +kernel
theorem dX3_howMany_14 : decode cX3_howMany 14 = .ok (.ifCond .eq 27, 3) := by decide +kernel
theorem dX3_howMany_17 : decode cX3_howMany 17 = .ok (.iload_n 2, 1) := by decide +kernel
theorem dX3_howMany_18 : decode cX3_howMany 18 = .ok (.aload_n 0, 1) := by decide +kernel
theorem dX3_howMany_19 : decode cX3_howMany 19 = .ok (.getfield 7, 3) := by decide +kernel
theorem dX3_howMany_22 : decode cX3_howMany 22 = .ok (.iload_n 3, 1) := by decide +kernel
theorem dX3_howMany_23 : decode cX3_howMany 23 = .ok (.iaload, 1) := by decide +kernel
theorem dX3_howMany_24 : decode cX3_howMany 24 = .ok (.iload_n 1, 1) := by decide +kernel
theorem dX3_howMany_25 : decode cX3_howMany 25 = .ok (.if_icmp .ne 7, 3) := by decide +kernel
theorem dX3_howMany_28 : decode cX3_howMany 28 = .ok (.iconst 1, 1) := by decide +kernel
theorem dX3_howMany_29 : decode cX3_howMany 29 = .ok (.goto 4, 3) := by decide +kernel
theorem dX3_howMany_32 : decode cX3_howMany 32 = .ok (.iconst 0, 1) := by decide +kernel
theorem dX3_howMany_33 : decode cX3_howMany 33 = .ok (.iadd, 1) := by decide +kernel
theorem dX3_howMany_34 : decode cX3_howMany 34 = .ok (.istore_n 2, 1) := by decide +kernel
theorem dX3_howMany_35 : decode cX3_howMany 35 = .ok (.iinc 3 1, 3) := by decide +kernel
theorem dX3_howMany_38 : decode cX3_howMany 38 = .ok (.goto (-34), 3) := by decide +kernel
theorem dX3_howMany_41 : decode cX3_howMany 41 = .ok (.iload_n 2, 1) := by decide +kernel
theorem dX3_howMany_42 : decode cX3_howMany 42 = .ok (.ireturn, 1) := by decide +kernel
set_option maxRecDepth 20000 in
theorem ggX3_hasOf_X3_provenance : GoodIn wsX3_hasOf wsX3_provenance := goodIn_r _ [5] (by decide +kernel) (by decide +kernel)
set_option maxRecDepth 20000 in
theorem gX3_hasOf_X3_provenance : GoodIn wsX3_hasOf (va_wsS RX3 48 yX3_provenance wsX3_provenance) := goodIn_app (goodIn_of _ (by decide +kernel)) ggX3_hasOf_X3_provenance
theorem dX3_hasOf_0 : decode cX3_hasOf 0 = .ok (.iconst 0, 1) := by decide +kernel
theorem dX3_hasOf_1 : decode cX3_hasOf 1 = .ok (.istore_n 3, 1) := by decide +kernel
theorem dX3_hasOf_2 : decode cX3_hasOf 2 = .ok (.iconst 0, 1) := by decide +kernel
theorem dX3_hasOf_3 : decode cX3_hasOf 3 = .ok (.istore 4, 2) := by decide +kernel
theorem dX3_hasOf_5 : decode cX3_hasOf 5 = .ok (.iload 4, 2) := by decide +kernel
theorem dX3_hasOf_7 : decode cX3_hasOf 7 = .ok (.bipush 40, 2) := by decide +kernel
theorem dX3_hasOf_9 : decode cX3_hasOf 9 = .ok (.if_icmp .ge 39, 3) := by decide +kernel
theorem dX3_hasOf_12 : decode cX3_hasOf 12 = .ok (.iload_n 3, 1) := by decide +kernel
theorem dX3_hasOf_13 : decode cX3_hasOf 13 = .ok (.ifCond .ne 23, 3) := by decide +kernel
theorem dX3_hasOf_16 : decode cX3_hasOf 16 = .ok (.aload_n 0, 1) := by decide +kernel
theorem dX3_hasOf_17 : decode cX3_hasOf 17 = .ok (.getfield 7, 3) := by decide +kernel
theorem dX3_hasOf_20 : decode cX3_hasOf 20 = .ok (.iload 4, 2) := by decide +kernel
theorem dX3_hasOf_22 : decode cX3_hasOf 22 = .ok (.iaload, 1) := by decide +kernel
theorem dX3_hasOf_23 : decode cX3_hasOf 23 = .ok (.iload_n 1, 1) := by decide +kernel
theorem dX3_hasOf_24 : decode cX3_hasOf 24 = .ok (.if_icmp .ne 16, 3) := by decide +kernel
theorem dX3_hasOf_27 : decode cX3_hasOf 27 = .ok (.iload 4, 2) := by decide +kernel
theorem dX3_hasOf_29 : decode cX3_hasOf 29 = .ok (.invokestatic 48, 3) := by decide +kernel
theorem dX3_hasOf_32 : decode cX3_hasOf 32 = .ok (.iload_n 2, 1) := by decide +kernel
theorem dX3_hasOf_33 : decode cX3_hasOf 33 = .ok (.if_icmp .ne 7, 3) := by decide +kernel
theorem dX3_hasOf_36 : decode cX3_hasOf 36 = .ok (.iconst 1, 1) := by decide +kernel
theorem dX3_hasOf_37 : decode cX3_hasOf 37 = .ok (.goto 4, 3) := by decide +kernel
theorem dX3_hasOf_40 : decode cX3_hasOf 40 = .ok (.iconst 0, 1) := by decide +kernel
theorem dX3_hasOf_41 : decode cX3_hasOf 41 = .ok (.istore_n 3, 1) := by decide +kernel
theorem dX3_hasOf_42 : decode cX3_hasOf 42 = .ok (.iinc 4 1, 3) := by decide +kernel
theorem dX3_hasOf_45 : decode cX3_hasOf 45 = .ok (.goto (-40), 3) := by decide +kernel
theorem dX3_hasOf_48 : decode cX3_hasOf 48 = .ok (.iload_n 3, 1) := by decide +kernel
theorem dX3_hasOf_49 : decode cX3_hasOf 49 = .ok (.ireturn, 1) := by decide +kernel
set_option maxRecDepth 20000 in
theorem ggX3_hasDated_X3_hasOf : GoodIn wsX3_hasDated wsX3_hasOf := goodIn_r _ [5, 6, 7, 8, 4, 9, 10, 11, 12, 13, 14, 15, 16, 17, 18, 19, 20, 21, 22, 23, 24] (by decide +kernel) (by decide +kernel)
set_option maxRecDepth 20000 in
theorem gX3_hasDated_X3_hasOf : GoodIn wsX3_hasDated (wsV RX3 75 RX3 yX3_hasOf wsX3_hasOf) := goodIn_app (goodIn_of _ (by decide +kernel)) ggX3_hasDated_X3_hasOf
theorem dX3_hasDated_0 : decode cX3_hasDated 0 = .ok (.aload_n 0, 1) := by decide +kernel
theorem dX3_hasDated_1 : decode cX3_hasDated 1 = .ok (.iload_n 1, 1) := by decide +kernel
theorem dX3_hasDated_2 : decode cX3_hasDated 2 = .ok (.iconst 0, 1) := by decide +kernel
theorem dX3_hasDated_3 : decode cX3_hasDated 3 = .ok (.invokevirtual 75, 3) := by decide +kernel
theorem dX3_hasDated_6 : decode cX3_hasDated 6 = .ok (.ifCond .ne 30, 3) := by decide +kernel
theorem dX3_hasDated_9 : decode cX3_hasDated 9 = .ok (.aload_n 0, 1) := by decide +kernel
theorem dX3_hasDated_10 : decode cX3_hasDated 10 = .ok (.iload_n 1, 1) := by decide +kernel
theorem dX3_hasDated_11 : decode cX3_hasDated 11 = .ok (.iconst 1, 1) := by decide +kernel
theorem dX3_hasDated_12 : decode cX3_hasDated 12 = .ok (.invokevirtual 75, 3) := by decide +kernel
theorem dX3_hasDated_15 : decode cX3_hasDated 15 = .ok (.ifCond .ne 21, 3) := by decide +kernel
theorem dX3_hasDated_18 : decode cX3_hasDated 18 = .ok (.aload_n 0, 1) := by decide +kernel
theorem dX3_hasDated_19 : decode cX3_hasDated 19 = .ok (.iload_n 1, 1) := by decide +kernel
theorem dX3_hasDated_20 : decode cX3_hasDated 20 = .ok (.iconst 2, 1) := by decide +kernel
theorem dX3_hasDated_21 : decode cX3_hasDated 21 = .ok (.invokevirtual 75, 3) := by decide +kernel
theorem dX3_hasDated_24 : decode cX3_hasDated 24 = .ok (.ifCond .ne 12, 3) := by decide +kernel
theorem dX3_hasDated_27 : decode cX3_hasDated 27 = .ok (.aload_n 0, 1) := by decide +kernel
theorem dX3_hasDated_28 : decode cX3_hasDated 28 = .ok (.iload_n 1, 1) := by decide +kernel
theorem dX3_hasDated_29 : decode cX3_hasDated 29 = .ok (.iconst 3, 1) := by decide +kernel
theorem dX3_hasDated_30 : decode cX3_hasDated 30 = .ok (.invokevirtual 75, 3) := by decide +kernel
theorem dX3_hasDated_33 : decode cX3_hasDated 33 = .ok (.ifCond .eq 7, 3) := by decide +kernel
theorem dX3_hasDated_36 : decode cX3_hasDated 36 = .ok (.iconst 1, 1) := by decide +kernel
theorem dX3_hasDated_37 : decode cX3_hasDated 37 = .ok (.goto 4, 3) := by decide +kernel
theorem dX3_hasDated_40 : decode cX3_hasDated 40 = .ok (.iconst 0, 1) := by decide +kernel
theorem dX3_hasDated_41 : decode cX3_hasDated 41 = .ok (.ireturn, 1) := by decide +kernel
set_option maxRecDepth 20000 in
theorem ggX3_why_X3_isMildew : GoodIn wsX3_why wsX3_isMildew := goodIn_r _ [9] (by decide +kernel) (by decide +kernel)
set_option maxRecDepth 20000 in
theorem gX3_why_X3_isMildew : GoodIn wsX3_why (va_wsS RX3 44 yX3_isMildew wsX3_isMildew) := goodIn_app (goodIn_of _ (by decide +kernel)) ggX3_why_X3_isMildew
set_option maxRecDepth 20000 in
theorem ggX3_why_X3_hasDated : GoodIn wsX3_why wsX3_hasDated := goodIn_r _ [13, 14, 15, 16, 8, 17, 2, 18, 19, 20, 31, 32, 33, 34, 35, 36, 37, 38, 39, 40, 41, 42, 43, 44, 45] (by decide +kernel) (by decide +kernel)
set_option maxRecDepth 20000 in
theorem gX3_why_X3_hasDated : GoodIn wsX3_why (wsV RX3 79 RX3 yX3_hasDated wsX3_hasDated) := goodIn_app (goodIn_of _ (by decide +kernel)) ggX3_why_X3_hasDated
set_option maxRecDepth 20000 in
theorem ggX3_why_X3_inPile : GoodIn wsX3_why wsX3_inPile := goodIn_r _ [24, 25, 26, 31, 32, 33, 34, 35, 36, 37, 38, 39, 40, 41, 42, 43, 44, 45] (by decide +kernel) (by decide +kernel)
set_option maxRecDepth 20000 in
theorem gX3_why_X3_inPile : GoodIn wsX3_why (wsV RX3 82 RX3 yX3_inPile wsX3_inPile) := goodIn_app (goodIn_of _ (by decide +kernel)) ggX3_why_X3_inPile
set_option maxRecDepth 20000 in
theorem ggX3_why_X3_provenance : GoodIn wsX3_why wsX3_provenance := goodIn_r _ [20] (by decide +kernel) (by decide +kernel)
set_option maxRecDepth 20000 in
theorem gX3_why_X3_provenance : GoodIn wsX3_why (va_wsS RX3 48 yX3_provenance wsX3_provenance) := goodIn_app (goodIn_of _ (by decide +kernel)) ggX3_why_X3_provenance
set_option maxRecDepth 20000 in
theorem ggX3_why_X3_hasOf : GoodIn wsX3_why wsX3_hasOf := goodIn_r _ [17, 2, 18, 19, 8, 20, 31, 32, 33, 34, 35, 36, 37, 38, 39, 40, 41, 42, 43, 44, 45] (by decide +kernel) (by decide +kernel)
set_option maxRecDepth 20000 in
theorem gX3_why_X3_hasOf : GoodIn wsX3_why (wsV RX3 75 RX3 yX3_hasOf wsX3_hasOf) := goodIn_app (goodIn_of _ (by decide +kernel)) ggX3_why_X3_hasOf
set_option maxRecDepth 20000 in
theorem ggX3_why_X3_isTrump : GoodIn wsX3_why wsX3_isTrump := goodIn_r _ [30, 5, 6, 7, 8, 9, 18, 19, 20, 31, 32, 33, 34, 35, 36, 37, 38, 39, 40, 41, 42, 43, 44, 45] (by decide +kernel) (by decide +kernel)
set_option maxRecDepth 20000 in
theorem gX3_why_X3_isTrump : GoodIn wsX3_why (wsV RX3 55 RX3 yX3_isTrump wsX3_isTrump) := goodIn_app (goodIn_of _ (by decide +kernel)) ggX3_why_X3_isTrump
theorem dX3_why_0 : decode cX3_why 0 = .ok (.aload_n 0, 1) := by decide +kernel
theorem dX3_why_1 : decode cX3_why 1 = .ok (.getfield 72, 3) := by decide +kernel
theorem dX3_why_4 : decode cX3_why 4 = .ok (.ifCond .ne 5, 3) := by decide +kernel
theorem dX3_why_7 : decode cX3_why 7 = .ok (.iconst 1, 1) := by decide +kernel
theorem dX3_why_8 : decode cX3_why 8 = .ok (.ireturn, 1) := by decide +kernel
theorem dX3_why_9 : decode cX3_why 9 = .ok (.aload_n 0, 1) := by decide +kernel
theorem dX3_why_10 : decode cX3_why 10 = .ok (.getfield 7, 3) := by decide +kernel
theorem dX3_why_13 : decode cX3_why 13 = .ok (.iload_n 1, 1) := by decide +kernel
theorem dX3_why_14 : decode cX3_why 14 = .ok (.iaload, 1) := by decide +kernel
theorem dX3_why_15 : decode cX3_why 15 = .ok (.aload_n 0, 1) := by decide +kernel
theorem dX3_why_16 : decode cX3_why 16 = .ok (.getfield 69, 3) := by decide +kernel
theorem dX3_why_19 : decode cX3_why 19 = .ok (.if_icmp .eq 5, 3) := by decide +kernel
theorem dX3_why_22 : decode cX3_why 22 = .ok (.iconst 2, 1) := by decide +kernel
theorem dX3_why_23 : decode cX3_why 23 = .ok (.ireturn, 1) := by decide +kernel
theorem dX3_why_24 : decode cX3_why 24 = .ok (.aload_n 0, 1) := by decide +kernel
theorem dX3_why_25 : decode cX3_why 25 = .ok (.getfield 16, 3) := by decide +kernel
theorem dX3_why_28 : decode cX3_why 28 = .ok (.ifCond .ge 27, 3) := by decide +kernel
theorem dX3_why_31 : decode cX3_why 31 = .ok (.iload_n 1, 1) := by decide +kernel
theorem dX3_why_32 : decode cX3_why 32 = .ok (.invokestatic 44, 3) := by decide +kernel
theorem dX3_why_35 : decode cX3_why 35 = .ok (.ifCond .eq 18, 3) := by decide +kernel
theorem dX3_why_38 : decode cX3_why 38 = .ok (.aload_n 0, 1) := by decide +kernel
theorem dX3_why_39 : decode cX3_why 39 = .ok (.aload_n 0, 1) := by decide +kernel
theorem dX3_why_40 : decode cX3_why 40 = .ok (.getfield 69, 3) := by decide +kernel
theorem dX3_why_43 : decode cX3_why 43 = .ok (.invokevirtual 79, 3) := by decide +kernel
theorem dX3_why_46 : decode cX3_why 46 = .ok (.ifCond .eq 7, 3) := by decide +kernel
theorem dX3_why_49 : decode cX3_why 49 = .ok (.iconst 3, 1) := by decide +kernel
theorem dX3_why_50 : decode cX3_why 50 = .ok (.goto 4, 3) := by decide +kernel
theorem dX3_why_53 : decode cX3_why 53 = .ok (.iconst 0, 1) := by decide +kernel
theorem dX3_why_54 : decode cX3_why 54 = .ok (.ireturn, 1) := by decide +kernel
theorem dX3_why_55 : decode cX3_why 55 = .ok (.aload_n 0, 1) := by decide +kernel
theorem dX3_why_56 : decode cX3_why 56 = .ok (.invokevirtual 82, 3) := by decide +kernel
theorem dX3_why_59 : decode cX3_why 59 = .ok (.ifCond .gt 13, 3) := by decide +kernel
theorem dX3_why_62 : decode cX3_why 62 = .ok (.aload_n 0, 1) := by decide +kernel
theorem dX3_why_63 : decode cX3_why 63 = .ok (.getfield 16, 3) := by decide +kernel
theorem dX3_why_66 : decode cX3_why 66 = .ok (.invokestatic 44, 3) := by decide +kernel
theorem dX3_why_69 : decode cX3_why 69 = .ok (.ifCond .eq 5, 3) := by decide +kernel
theorem dX3_why_72 : decode cX3_why 72 = .ok (.iconst 0, 1) := by decide +kernel
theorem dX3_why_73 : decode cX3_why 73 = .ok (.ireturn, 1) := by decide +kernel
theorem dX3_why_74 : decode cX3_why 74 = .ok (.aload_n 0, 1) := by decide +kernel
theorem dX3_why_75 : decode cX3_why 75 = .ok (.aload_n 0, 1) := by decide +kernel
theorem dX3_why_76 : decode cX3_why 76 = .ok (.getfield 69, 3) := by decide +kernel
theorem dX3_why_79 : decode cX3_why 79 = .ok (.aload_n 0, 1) := by decide +kernel
theorem dX3_why_80 : decode cX3_why 80 = .ok (.getfield 16, 3) := by decide +kernel
theorem dX3_why_83 : decode cX3_why 83 = .ok (.invokestatic 48, 3) := by decide +kernel
theorem dX3_why_86 : decode cX3_why 86 = .ok (.invokevirtual 75, 3) := by decide +kernel
theorem dX3_why_89 : decode cX3_why 89 = .ok (.ifCond .eq 30, 3) := by decide +kernel
theorem dX3_why_92 : decode cX3_why 92 = .ok (.iload_n 1, 1) := by decide +kernel
theorem dX3_why_93 : decode cX3_why 93 = .ok (.invokestatic 44, 3) := by decide +kernel
theorem dX3_why_96 : decode cX3_why 96 = .ok (.ifCond .ne 21, 3) := by decide +kernel
theorem dX3_why_99 : decode cX3_why 99 = .ok (.iload_n 1, 1) := by decide +kernel
theorem dX3_why_100 : decode cX3_why 100 = .ok (.invokestatic 48, 3) := by decide +kernel
theorem dX3_why_103 : decode cX3_why 103 = .ok (.aload_n 0, 1) := by decide +kernel
theorem dX3_why_104 : decode cX3_why 104 = .ok (.getfield 16, 3) := by decide +kernel
theorem dX3_why_107 : decode cX3_why 107 = .ok (.invokestatic 48, 3) := by decide +kernel
theorem dX3_why_110 : decode cX3_why 110 = .ok (.if_icmp .ne 7, 3) := by decide +kernel
theorem dX3_why_113 : decode cX3_why 113 = .ok (.iconst 0, 1) := by decide +kernel
theorem dX3_why_114 : decode cX3_why 114 = .ok (.goto 4, 3) := by decide +kernel
theorem dX3_why_117 : decode cX3_why 117 = .ok (.iconst 4, 1) := by decide +kernel
theorem dX3_why_118 : decode cX3_why 118 = .ok (.ireturn, 1) := by decide +kernel
theorem dX3_why_119 : decode cX3_why 119 = .ok (.aload_n 0, 1) := by decide +kernel
theorem dX3_why_120 : decode cX3_why 120 = .ok (.aload_n 0, 1) := by decide +kernel
theorem dX3_why_121 : decode cX3_why 121 = .ok (.getfield 69, 3) := by decide +kernel
theorem dX3_why_124 : decode cX3_why 124 = .ok (.aload_n 0, 1) := by decide +kernel
theorem dX3_why_125 : decode cX3_why 125 = .ok (.getfield 20, 3) := by decide +kernel
theorem dX3_why_128 : decode cX3_why 128 = .ok (.invokevirtual 75, 3) := by decide +kernel
theorem dX3_why_131 : decode cX3_why 131 = .ok (.ifCond .eq 15, 3) := by decide +kernel
theorem dX3_why_134 : decode cX3_why 134 = .ok (.aload_n 0, 1) := by decide +kernel
theorem dX3_why_135 : decode cX3_why 135 = .ok (.iload_n 1, 1) := by decide +kernel
theorem dX3_why_136 : decode cX3_why 136 = .ok (.invokevirtual 55, 3) := by decide +kernel
theorem dX3_why_139 : decode cX3_why 139 = .ok (.ifCond .ne 7, 3) := by decide +kernel
theorem dX3_why_142 : decode cX3_why 142 = .ok (.iconst 5, 1) := by decide +kernel
theorem dX3_why_143 : decode cX3_why 143 = .ok (.goto 4, 3) := by decide +kernel
theorem dX3_why_146 : decode cX3_why 146 = .ok (.iconst 0, 1) := by decide +kernel
theorem dX3_why_147 : decode cX3_why 147 = .ok (.ireturn, 1) := by decide +kernel
set_option maxRecDepth 20000 in
theorem ggX3_draws_X3_inPile : GoodIn wsX3_draws wsX3_inPile := goodIn_r _ [8, 9, 3, 10, 11, 12, 13, 14, 15, 16, 17, 18, 19, 20, 21, 22, 23, 24] (by decide +kernel) (by decide +kernel)
set_option maxRecDepth 20000 in
theorem gX3_draws_X3_inPile : GoodIn wsX3_draws (wsV RX3 82 RX3 yX3_inPile wsX3_inPile) := goodIn_app (goodIn_of _ (by decide +kernel)) ggX3_draws_X3_inPile
theorem dX3_draws_0 : decode cX3_draws 0 = .ok (.aload_n 0, 1) := by decide +kernel
theorem dX3_draws_1 : decode cX3_draws 1 = .ok (.invokevirtual 82, 3) := by decide +kernel
theorem dX3_draws_4 : decode cX3_draws 4 = .ok (.ifCond .le 45, 3) := by decide +kernel
theorem dX3_draws_7 : decode cX3_draws 7 = .ok (.aload_n 0, 1) := by decide +kernel
theorem dX3_draws_8 : decode cX3_draws 8 = .ok (.getfield 7, 3) := by decide +kernel
theorem dX3_draws_11 : decode cX3_draws 11 = .ok (.aload_n 0, 1) := by decide +kernel
theorem dX3_draws_12 : decode cX3_draws 12 = .ok (.getfield 13, 3) := by decide +kernel
theorem dX3_draws_15 : decode cX3_draws 15 = .ok (.aload_n 0, 1) := by decide +kernel
theorem dX3_draws_16 : decode cX3_draws 16 = .ok (.getfield 62, 3) := by decide +kernel
theorem dX3_draws_19 : decode cX3_draws 19 = .ok (.bipush 29, 2) := by decide +kernel
theorem dX3_draws_21 : decode cX3_draws 21 = .ok (.if_icmp .ge 13, 3) := by decide +kernel
theorem dX3_draws_24 : decode cX3_draws 24 = .ok (.bipush 13, 2) := by decide +kernel
theorem dX3_draws_26 : decode cX3_draws 26 = .ok (.aload_n 0, 1) := by decide +kernel
theorem dX3_draws_27 : decode cX3_draws 27 = .ok (.getfield 62, 3) := by decide +kernel
theorem dX3_draws_30 : decode cX3_draws 30 = .ok (.iadd, 1) := by decide +kernel
theorem dX3_draws_31 : decode cX3_draws 31 = .ok (.goto 5, 3) := by decide +kernel
theorem dX3_draws_34 : decode cX3_draws 34 = .ok (.bipush 12, 2) := by decide +kernel
theorem dX3_draws_36 : decode cX3_draws 36 = .ok (.iaload, 1) := by decide +kernel
theorem dX3_draws_37 : decode cX3_draws 37 = .ok (.iload_n 1, 1) := by decide +kernel
theorem dX3_draws_38 : decode cX3_draws 38 = .ok (.iastore, 1) := by decide +kernel
theorem dX3_draws_39 : decode cX3_draws 39 = .ok (.aload_n 0, 1) := by decide +kernel
theorem dX3_draws_40 : decode cX3_draws 40 = .ok (.dup, 1) := by decide +kernel
theorem dX3_draws_41 : decode cX3_draws 41 = .ok (.getfield 62, 3) := by decide +kernel
theorem dX3_draws_44 : decode cX3_draws 44 = .ok (.iconst 1, 1) := by decide +kernel
theorem dX3_draws_45 : decode cX3_draws 45 = .ok (.iadd, 1) := by decide +kernel
theorem dX3_draws_46 : decode cX3_draws 46 = .ok (.putfield 62, 3) := by decide +kernel
theorem dX3_draws_49 : decode cX3_draws 49 = .ok (.return_, 1) := by decide +kernel
set_option maxRecDepth 20000 in
theorem ggX3_ends_X3_takes : GoodIn wsX3_ends wsX3_takes := goodIn_r _ [13, 14, 15, 12, 16, 17, 18, 19, 20, 21, 22, 23, 24, 46, 47, 48, 49, 50, 51, 52, 53, 54, 55, 56, 57, 58, 59, 60] (by decide +kernel) (by decide +kernel)
set_option maxRecDepth 20000 in
theorem gX3_ends_X3_takes : GoodIn wsX3_ends (wsV RX3 86 RX3 yX3_takes wsX3_takes) := goodIn_app (goodIn_of _ (by decide +kernel)) ggX3_ends_X3_takes
set_option maxRecDepth 20000 in
theorem ggX3_ends_X3_worthTo : GoodIn wsX3_ends wsX3_worthTo := goodIn_r _ [27, 14, 15, 12, 16, 28, 29, 30] (by decide +kernel) (by decide +kernel)
set_option maxRecDepth 20000 in
theorem gX3_ends_X3_worthTo : GoodIn wsX3_ends (va_wsS RX3 89 yX3_worthTo wsX3_worthTo) := goodIn_app (goodIn_of _ (by decide +kernel)) ggX3_ends_X3_worthTo
set_option maxRecDepth 20000 in
theorem ggX3_ends_X3_draws : GoodIn wsX3_ends wsX3_draws := goodIn_r _ [34, 6, 35, 36, 37, 38, 39, 12, 40, 41, 46, 47, 48, 49, 50, 51, 52, 53, 54, 55, 56, 57, 58, 59, 60] (by decide +kernel) (by decide +kernel)
set_option maxRecDepth 20000 in
theorem gX3_ends_X3_draws : GoodIn wsX3_ends (wsV RX3 93 RX3 yX3_draws wsX3_draws) := goodIn_app (goodIn_of _ (by decide +kernel)) ggX3_ends_X3_draws
set_option maxRecDepth 20000 in
theorem ggX3_ends_X3_howMany : GoodIn wsX3_ends wsX3_howMany := goodIn_r _ [45, 41, 6, 46, 47, 48, 49, 50, 51, 52, 53, 54, 55, 56, 57, 58, 59, 60] (by decide +kernel) (by decide +kernel)
set_option maxRecDepth 20000 in
theorem gX3_ends_X3_howMany : GoodIn wsX3_ends (wsV RX3 97 RX3 yX3_howMany wsX3_howMany) := goodIn_app (goodIn_of _ (by decide +kernel)) ggX3_ends_X3_howMany
theorem dX3_ends_0 : decode cX3_ends 0 = .ok (.iconst 1, 1) := by decide +kernel
theorem dX3_ends_1 : decode cX3_ends 1 = .ok (.aload_n 0, 1) := by decide +kernel
theorem dX3_ends_2 : decode cX3_ends 2 = .ok (.getfield 69, 3) := by decide +kernel
theorem dX3_ends_5 : decode cX3_ends 5 = .ok (.isub, 1) := by decide +kernel
theorem dX3_ends_6 : decode cX3_ends 6 = .ok (.istore_n 2, 1) := by decide +kernel
theorem dX3_ends_7 : decode cX3_ends 7 = .ok (.aload_n 0, 1) := by decide +kernel
theorem dX3_ends_8 : decode cX3_ends 8 = .ok (.iload_n 1, 1) := by decide +kernel
theorem dX3_ends_9 : decode cX3_ends 9 = .ok (.aload_n 0, 1) := by decide +kernel
theorem dX3_ends_10 : decode cX3_ends 10 = .ok (.getfield 16, 3) := by decide +kernel
theorem dX3_ends_13 : decode cX3_ends 13 = .ok (.invokevirtual 86, 3) := by decide +kernel
theorem dX3_ends_16 : decode cX3_ends 16 = .ok (.ifCond .eq 10, 3) := by decide +kernel
theorem dX3_ends_19 : decode cX3_ends 19 = .ok (.aload_n 0, 1) := by decide +kernel
theorem dX3_ends_20 : decode cX3_ends 20 = .ok (.getfield 69, 3) := by decide +kernel
theorem dX3_ends_23 : decode cX3_ends 23 = .ok (.goto 4, 3) := by decide +kernel
theorem dX3_ends_26 : decode cX3_ends 26 = .ok (.iload_n 2, 1) := by decide +kernel
theorem dX3_ends_27 : decode cX3_ends 27 = .ok (.istore_n 3, 1) := by decide +kernel
theorem dX3_ends_28 : decode cX3_ends 28 = .ok (.aload_n 0, 1) := by decide +kernel
theorem dX3_ends_29 : decode cX3_ends 29 = .ok (.getfield 29, 3) := by decide +kernel
theorem dX3_ends_32 : decode cX3_ends 32 = .ok (.iload_n 3, 1) := by decide +kernel
theorem dX3_ends_33 : decode cX3_ends 33 = .ok (.iaload, 1) := by decide +kernel
theorem dX3_ends_34 : decode cX3_ends 34 = .ok (.iconst 1, 1) := by decide +kernel
theorem dX3_ends_35 : decode cX3_ends 35 = .ok (.if_icmp .ne 7, 3) := by decide +kernel
theorem dX3_ends_38 : decode cX3_ends 38 = .ok (.iconst 1, 1) := by decide +kernel
theorem dX3_ends_39 : decode cX3_ends 39 = .ok (.goto 4, 3) := by decide +kernel
theorem dX3_ends_42 : decode cX3_ends 42 = .ok (.iconst 0, 1) := by decide +kernel
theorem dX3_ends_43 : decode cX3_ends 43 = .ok (.istore 4, 2) := by decide +kernel
theorem dX3_ends_45 : decode cX3_ends 45 = .ok (.aload_n 0, 1) := by decide +kernel
theorem dX3_ends_46 : decode cX3_ends 46 = .ok (.getfield 23, 3) := by decide +kernel
theorem dX3_ends_49 : decode cX3_ends 49 = .ok (.iload_n 3, 1) := by decide +kernel
theorem dX3_ends_50 : decode cX3_ends 50 = .ok (.dup2, 1) := by decide +kernel
theorem dX3_ends_51 : decode cX3_ends 51 = .ok (.iaload, 1) := by decide +kernel
theorem dX3_ends_52 : decode cX3_ends 52 = .ok (.iload_n 1, 1) := by decide +kernel
theorem dX3_ends_53 : decode cX3_ends 53 = .ok (.iload 4, 2) := by decide +kernel
theorem dX3_ends_55 : decode cX3_ends 55 = .ok (.invokestatic 89, 3) := by decide +kernel
theorem dX3_ends_58 : decode cX3_ends 58 = .ok (.aload_n 0, 1) := by decide +kernel
theorem dX3_ends_59 : decode cX3_ends 59 = .ok (.getfield 16, 3) := by decide +kernel
theorem dX3_ends_62 : decode cX3_ends 62 = .ok (.iload 4, 2) := by decide +kernel
theorem dX3_ends_64 : decode cX3_ends 64 = .ok (.invokestatic 89, 3) := by decide +kernel
theorem dX3_ends_67 : decode cX3_ends 67 = .ok (.iadd, 1) := by decide +kernel
theorem dX3_ends_68 : decode cX3_ends 68 = .ok (.iadd, 1) := by decide +kernel
theorem dX3_ends_69 : decode cX3_ends 69 = .ok (.iastore, 1) := by decide +kernel
theorem dX3_ends_70 : decode cX3_ends 70 = .ok (.aload_n 0, 1) := by decide +kernel
theorem dX3_ends_71 : decode cX3_ends 71 = .ok (.getfield 26, 3) := by decide +kernel
theorem dX3_ends_74 : decode cX3_ends 74 = .ok (.iload_n 3, 1) := by decide +kernel
theorem dX3_ends_75 : decode cX3_ends 75 = .ok (.dup2, 1) := by decide +kernel
theorem dX3_ends_76 : decode cX3_ends 76 = .ok (.iaload, 1) := by decide +kernel
theorem dX3_ends_77 : decode cX3_ends 77 = .ok (.iconst 1, 1) := by decide +kernel
theorem dX3_ends_78 : decode cX3_ends 78 = .ok (.iadd, 1) := by decide +kernel
theorem dX3_ends_79 : decode cX3_ends 79 = .ok (.iastore, 1) := by decide +kernel
theorem dX3_ends_80 : decode cX3_ends 80 = .ok (.aload_n 0, 1) := by decide +kernel
theorem dX3_ends_81 : decode cX3_ends 81 = .ok (.getfield 7, 3) := by decide +kernel
theorem dX3_ends_84 : decode cX3_ends 84 = .ok (.iload_n 1, 1) := by decide +kernel
theorem dX3_ends_85 : decode cX3_ends 85 = .ok (.iconst 4, 1) := by decide +kernel
theorem dX3_ends_86 : decode cX3_ends 86 = .ok (.iload_n 3, 1) := by decide +kernel
theorem dX3_ends_87 : decode cX3_ends 87 = .ok (.iadd, 1) := by decide +kernel
theorem dX3_ends_88 : decode cX3_ends 88 = .ok (.iastore, 1) := by decide +kernel
theorem dX3_ends_89 : decode cX3_ends 89 = .ok (.aload_n 0, 1) := by decide +kernel
theorem dX3_ends_90 : decode cX3_ends 90 = .ok (.getfield 7, 3) := by decide +kernel
theorem dX3_ends_93 : decode cX3_ends 93 = .ok (.aload_n 0, 1) := by decide +kernel
theorem dX3_ends_94 : decode cX3_ends 94 = .ok (.getfield 16, 3) := by decide +kernel
theorem dX3_ends_97 : decode cX3_ends 97 = .ok (.iconst 4, 1) := by decide +kernel
theorem dX3_ends_98 : decode cX3_ends 98 = .ok (.iload_n 3, 1) := by decide +kernel
theorem dX3_ends_99 : decode cX3_ends 99 = .ok (.iadd, 1) := by decide +kernel
theorem dX3_ends_100 : decode cX3_ends 100 = .ok (.iastore, 1) := by decide +kernel
theorem dX3_ends_101 : decode cX3_ends 101 = .ok (.aload_n 0, 1) := by decide +kernel
theorem dX3_ends_102 : decode cX3_ends 102 = .ok (.iconst (-1), 1) := by decide +kernel
theorem dX3_ends_103 : decode cX3_ends 103 = .ok (.putfield 16, 3) := by decide +kernel
theorem dX3_ends_106 : decode cX3_ends 106 = .ok (.iconst 0, 1) := by decide +kernel
theorem dX3_ends_107 : decode cX3_ends 107 = .ok (.istore 5, 2) := by decide +kernel
theorem dX3_ends_109 : decode cX3_ends 109 = .ok (.iload 5, 2) := by decide +kernel
theorem dX3_ends_111 : decode cX3_ends 111 = .ok (.iconst 2, 1) := by decide +kernel
theorem dX3_ends_112 : decode cX3_ends 112 = .ok (.if_icmp .ge 38, 3) := by decide +kernel
theorem dX3_ends_115 : decode cX3_ends 115 = .ok (.aload_n 0, 1) := by decide +kernel
theorem dX3_ends_116 : decode cX3_ends 116 = .ok (.getfield 29, 3) := by decide +kernel
theorem dX3_ends_119 : decode cX3_ends 119 = .ok (.iload 5, 2) := by decide +kernel
theorem dX3_ends_121 : decode cX3_ends 121 = .ok (.aload_n 0, 1) := by decide +kernel
theorem dX3_ends_122 : decode cX3_ends 122 = .ok (.getfield 29, 3) := by decide +kernel
theorem dX3_ends_125 : decode cX3_ends 125 = .ok (.iload 5, 2) := by decide +kernel
theorem dX3_ends_127 : decode cX3_ends 127 = .ok (.iaload, 1) := by decide +kernel
theorem dX3_ends_128 : decode cX3_ends 128 = .ok (.iconst 1, 1) := by decide +kernel
theorem dX3_ends_129 : decode cX3_ends 129 = .ok (.if_icmp .ne 7, 3) := by decide +kernel
theorem dX3_ends_132 : decode cX3_ends 132 = .ok (.iconst 2, 1) := by decide +kernel
theorem dX3_ends_133 : decode cX3_ends 133 = .ok (.goto 10, 3) := by decide +kernel
theorem dX3_ends_136 : decode cX3_ends 136 = .ok (.aload_n 0, 1) := by decide +kernel
theorem dX3_ends_137 : decode cX3_ends 137 = .ok (.getfield 29, 3) := by decide +kernel
theorem dX3_ends_140 : decode cX3_ends 140 = .ok (.iload 5, 2) := by decide +kernel
theorem dX3_ends_142 : decode cX3_ends 142 = .ok (.iaload, 1) := by decide +kernel
theorem dX3_ends_143 : decode cX3_ends 143 = .ok (.iastore, 1) := by decide +kernel
theorem dX3_ends_144 : decode cX3_ends 144 = .ok (.iinc 5 1, 3) := by decide +kernel
theorem dX3_ends_147 : decode cX3_ends 147 = .ok (.goto (-38), 3) := by decide +kernel
theorem dX3_ends_150 : decode cX3_ends 150 = .ok (.aload_n 0, 1) := by decide +kernel
theorem dX3_ends_151 : decode cX3_ends 151 = .ok (.iload_n 3, 1) := by decide +kernel
theorem dX3_ends_152 : decode cX3_ends 152 = .ok (.invokevirtual 93, 3) := by decide +kernel
theorem dX3_ends_155 : decode cX3_ends 155 = .ok (.aload_n 0, 1) := by decide +kernel
theorem dX3_ends_156 : decode cX3_ends 156 = .ok (.iconst 1, 1) := by decide +kernel
theorem dX3_ends_157 : decode cX3_ends 157 = .ok (.iload_n 3, 1) := by decide +kernel
theorem dX3_ends_158 : decode cX3_ends 158 = .ok (.isub, 1) := by decide +kernel
theorem dX3_ends_159 : decode cX3_ends 159 = .ok (.invokevirtual 93, 3) := by decide +kernel
theorem dX3_ends_162 : decode cX3_ends 162 = .ok (.aload_n 0, 1) := by decide +kernel
theorem dX3_ends_163 : decode cX3_ends 163 = .ok (.iload_n 3, 1) := by decide +kernel
theorem dX3_ends_164 : decode cX3_ends 164 = .ok (.putfield 69, 3) := by decide +kernel
theorem dX3_ends_167 : decode cX3_ends 167 = .ok (.aload_n 0, 1) := by decide +kernel
theorem dX3_ends_168 : decode cX3_ends 168 = .ok (.iconst 0, 1) := by decide +kernel
theorem dX3_ends_169 : decode cX3_ends 169 = .ok (.invokevirtual 97, 3) := by decide +kernel
theorem dX3_ends_172 : decode cX3_ends 172 = .ok (.aload_n 0, 1) := by decide +kernel
theorem dX3_ends_173 : decode cX3_ends 173 = .ok (.iconst 1, 1) := by decide +kernel
theorem dX3_ends_174 : decode cX3_ends 174 = .ok (.invokevirtual 97, 3) := by decide +kernel
theorem dX3_ends_177 : decode cX3_ends 177 = .ok (.iadd, 1) := by decide +kernel
theorem dX3_ends_178 : decode cX3_ends 178 = .ok (.ifCond .ne 66, 3) := by decide +kernel
theorem dX3_ends_181 : decode cX3_ends 181 = .ok (.aload_n 0, 1) := by decide +kernel
theorem dX3_ends_182 : decode cX3_ends 182 = .ok (.iconst 0, 1) := by decide +kernel
theorem dX3_ends_183 : decode cX3_ends 183 = .ok (.putfield 72, 3) := by decide +kernel
theorem dX3_ends_186 : decode cX3_ends 186 = .ok (.aload_n 0, 1) := by decide +kernel
theorem dX3_ends_187 : decode cX3_ends 187 = .ok (.getfield 32, 3) := by decide +kernel
theorem dX3_ends_190 : decode cX3_ends 190 = .ok (.iconst 0, 1) := by decide +kernel
theorem dX3_ends_191 : decode cX3_ends 191 = .ok (.dup2, 1) := by decide +kernel
theorem dX3_ends_192 : decode cX3_ends 192 = .ok (.iaload, 1) := by decide +kernel
theorem dX3_ends_193 : decode cX3_ends 193 = .ok (.aload_n 0, 1) := by decide +kernel
theorem dX3_ends_194 : decode cX3_ends 194 = .ok (.getfield 23, 3) := by decide +kernel
theorem dX3_ends_197 : decode cX3_ends 197 = .ok (.iconst 0, 1) := by decide +kernel
theorem dX3_ends_198 : decode cX3_ends 198 = .ok (.iaload, 1) := by decide +kernel
theorem dX3_ends_199 : decode cX3_ends 199 = .ok (.aload_n 0, 1) := by decide +kernel
theorem dX3_ends_200 : decode cX3_ends 200 = .ok (.getfield 23, 3) := by decide +kernel
theorem dX3_ends_203 : decode cX3_ends 203 = .ok (.iconst 1, 1) := by decide +kernel
theorem dX3_ends_204 : decode cX3_ends 204 = .ok (.iaload, 1) := by decide +kernel
theorem dX3_ends_205 : decode cX3_ends 205 = .ok (.if_icmp .le 7, 3) := by decide +kernel
theorem dX3_ends_208 : decode cX3_ends 208 = .ok (.iconst 1, 1) := by decide +kernel
theorem dX3_ends_209 : decode cX3_ends 209 = .ok (.goto 4, 3) := by decide +kernel
theorem dX3_ends_212 : decode cX3_ends 212 = .ok (.iconst 0, 1) := by decide +kernel
theorem dX3_ends_213 : decode cX3_ends 213 = .ok (.iadd, 1) := by decide +kernel
theorem dX3_ends_214 : decode cX3_ends 214 = .ok (.iastore, 1) := by decide +kernel
theorem dX3_ends_215 : decode cX3_ends 215 = .ok (.aload_n 0, 1) := by decide +kernel
theorem dX3_ends_216 : decode cX3_ends 216 = .ok (.getfield 32, 3) := by decide +kernel
theorem dX3_ends_219 : decode cX3_ends 219 = .ok (.iconst 1, 1) := by decide +kernel
theorem dX3_ends_220 : decode cX3_ends 220 = .ok (.dup2, 1) := by decide +kernel
theorem dX3_ends_221 : decode cX3_ends 221 = .ok (.iaload, 1) := by decide +kernel
theorem dX3_ends_222 : decode cX3_ends 222 = .ok (.aload_n 0, 1) := by decide +kernel
theorem dX3_ends_223 : decode cX3_ends 223 = .ok (.getfield 23, 3) := by decide +kernel
theorem dX3_ends_226 : decode cX3_ends 226 = .ok (.iconst 1, 1) := by decide +kernel
theorem dX3_ends_227 : decode cX3_ends 227 = .ok (.iaload, 1) := by decide +kernel
theorem dX3_ends_228 : decode cX3_ends 228 = .ok (.aload_n 0, 1) := by decide +kernel
theorem dX3_ends_229 : decode cX3_ends 229 = .ok (.getfield 23, 3) := by decide +kernel
theorem dX3_ends_232 : decode cX3_ends 232 = .ok (.iconst 0, 1) := by decide +kernel
theorem dX3_ends_233 : decode cX3_ends 233 = .ok (.iaload, 1) := by decide +kernel
theorem dX3_ends_234 : decode cX3_ends 234 = .ok (.if_icmp .le 7, 3) := by decide +kernel
theorem dX3_ends_237 : decode cX3_ends 237 = .ok (.iconst 1, 1) := by decide +kernel
theorem dX3_ends_238 : decode cX3_ends 238 = .ok (.goto 4, 3) := by decide +kernel
theorem dX3_ends_241 : decode cX3_ends 241 = .ok (.iconst 0, 1) := by decide +kernel
theorem dX3_ends_242 : decode cX3_ends 242 = .ok (.iadd, 1) := by decide +kernel
theorem dX3_ends_243 : decode cX3_ends 243 = .ok (.iastore, 1) := by decide +kernel
theorem dX3_ends_244 : decode cX3_ends 244 = .ok (.iload_n 3, 1) := by decide +kernel
theorem dX3_ends_245 : decode cX3_ends 245 = .ok (.ireturn, 1) := by decide +kernel
set_option maxRecDepth 20000 in
theorem ggX3_play_X3_isCard : GoodIn wsX3_play wsX3_isCard := goodIn_r _ [8] (by decide +kernel) (by decide +kernel)
set_option maxRecDepth 20000 in
theorem gX3_play_X3_isCard : GoodIn wsX3_play (va_wsS RX3 100 yX3_isCard wsX3_isCard) := goodIn_app (goodIn_of _ (by decide +kernel)) ggX3_play_X3_isCard
set_option maxRecDepth 20000 in
theorem ggX3_play_X3_why : GoodIn wsX3_play wsX3_why := goodIn_r _ [12, 13, 3, 4, 2, 14, 15, 16, 7, 17, 18, 19, 20, 21, 22, 23, 24, 25, 26, 27, 28, 29, 30, 31, 32, 33, 34, 35, 36, 37, 38, 66, 67, 68, 69, 70, 71, 72, 73, 74, 75, 76, 77, 78, 79, 80] (by decide +kernel) (by decide +kernel)
set_option maxRecDepth 20000 in
theorem gX3_play_X3_why : GoodIn wsX3_play (wsV RX3 103 RX3 yX3_why wsX3_why) := goodIn_app (goodIn_of _ (by decide +kernel)) ggX3_play_X3_why
set_option maxRecDepth 20000 in
theorem ggX3_play_X3_ends : GoodIn wsX3_play wsX3_ends := goodIn_r _ [42, 4, 2, 43, 44, 45, 3, 13, 46, 47, 48, 49, 7, 50, 15, 16, 17, 26, 27, 28, 35, 36, 37, 38, 14, 51, 52, 53, 54, 55, 56, 57, 58, 59, 60, 61, 34, 29, 30, 31, 32, 33, 62, 63, 64, 65, 66, 67, 68, 69, 70, 71, 72, 73, 74, 75, 76, 77, 78, 79, 80] (by decide +kernel) (by decide +kernel)
set_option maxRecDepth 20000 in
theorem gX3_play_X3_ends : GoodIn wsX3_play (wsV RX3 106 RX3 yX3_ends wsX3_ends) := goodIn_app (goodIn_of _ (by decide +kernel)) ggX3_play_X3_ends
theorem dX3_play_0 : decode cX3_play 0 = .ok (.aload_n 0, 1) := by decide +kernel
theorem dX3_play_1 : decode cX3_play 1 = .ok (.iload_n 1, 1) := by decide +kernel
theorem dX3_play_2 : decode cX3_play 2 = .ok (.invokestatic 100, 3) := by decide +kernel
theorem dX3_play_5 : decode cX3_play 5 = .ok (.ifCond .ne 7, 3) := by decide +kernel
theorem dX3_play_8 : decode cX3_play 8 = .ok (.iconst 1, 1) := by decide +kernel
theorem dX3_play_9 : decode cX3_play 9 = .ok (.goto 16, 3) := by decide +kernel
theorem dX3_play_12 : decode cX3_play 12 = .ok (.aload_n 0, 1) := by decide +kernel
theorem dX3_play_13 : decode cX3_play 13 = .ok (.iload_n 1, 1) := by decide +kernel
theorem dX3_play_14 : decode cX3_play 14 = .ok (.invokevirtual 103, 3) := by decide +kernel
theorem dX3_play_17 : decode cX3_play 17 = .ok (.ifCond .eq 7, 3) := by decide +kernel
theorem dX3_play_20 : decode cX3_play 20 = .ok (.iconst 2, 1) := by decide +kernel
theorem dX3_play_21 : decode cX3_play 21 = .ok (.goto 4, 3) := by decide +kernel
theorem dX3_play_24 : decode cX3_play 24 = .ok (.iconst 0, 1) := by decide +kernel
theorem dX3_play_25 : decode cX3_play 25 = .ok (.putfield 41, 3) := by decide +kernel
theorem dX3_play_28 : decode cX3_play 28 = .ok (.aload_n 0, 1) := by decide +kernel
theorem dX3_play_29 : decode cX3_play 29 = .ok (.getfield 41, 3) := by decide +kernel
theorem dX3_play_32 : decode cX3_play 32 = .ok (.ifCond .eq 5, 3) := by decide +kernel
theorem dX3_play_35 : decode cX3_play 35 = .ok (.iconst 0, 1) := by decide +kernel
theorem dX3_play_36 : decode cX3_play 36 = .ok (.ireturn, 1) := by decide +kernel
theorem dX3_play_37 : decode cX3_play 37 = .ok (.aload_n 0, 1) := by decide +kernel
theorem dX3_play_38 : decode cX3_play 38 = .ok (.getfield 16, 3) := by decide +kernel
theorem dX3_play_41 : decode cX3_play 41 = .ok (.ifCond .lt 9, 3) := by decide +kernel
theorem dX3_play_44 : decode cX3_play 44 = .ok (.aload_n 0, 1) := by decide +kernel
theorem dX3_play_45 : decode cX3_play 45 = .ok (.iload_n 1, 1) := by decide +kernel
theorem dX3_play_46 : decode cX3_play 46 = .ok (.invokevirtual 106, 3) := by decide +kernel
theorem dX3_play_49 : decode cX3_play 49 = .ok (.ireturn, 1) := by decide +kernel
theorem dX3_play_50 : decode cX3_play 50 = .ok (.aload_n 0, 1) := by decide +kernel
theorem dX3_play_51 : decode cX3_play 51 = .ok (.iload_n 1, 1) := by decide +kernel
theorem dX3_play_52 : decode cX3_play 52 = .ok (.putfield 16, 3) := by decide +kernel
theorem dX3_play_55 : decode cX3_play 55 = .ok (.aload_n 0, 1) := by decide +kernel
theorem dX3_play_56 : decode cX3_play 56 = .ok (.getfield 7, 3) := by decide +kernel
theorem dX3_play_59 : decode cX3_play 59 = .ok (.iload_n 1, 1) := by decide +kernel
theorem dX3_play_60 : decode cX3_play 60 = .ok (.iconst 3, 1) := by decide +kernel
theorem dX3_play_61 : decode cX3_play 61 = .ok (.iastore, 1) := by decide +kernel
theorem dX3_play_62 : decode cX3_play 62 = .ok (.aload_n 0, 1) := by decide +kernel
theorem dX3_play_63 : decode cX3_play 63 = .ok (.iconst 1, 1) := by decide +kernel
theorem dX3_play_64 : decode cX3_play 64 = .ok (.aload_n 0, 1) := by decide +kernel
theorem dX3_play_65 : decode cX3_play 65 = .ok (.getfield 69, 3) := by decide +kernel
theorem dX3_play_68 : decode cX3_play 68 = .ok (.isub, 1) := by decide +kernel
theorem dX3_play_69 : decode cX3_play 69 = .ok (.putfield 69, 3) := by decide +kernel
theorem dX3_play_72 : decode cX3_play 72 = .ok (.iconst (-1), 1) := by decide +kernel
theorem dX3_play_73 : decode cX3_play 73 = .ok (.ireturn, 1) := by decide +kernel
theorem dX3_putOnGloves_0 : decode cX3_putOnGloves 0 = .ok (.aload_n 0, 1) := by decide +kernel
theorem dX3_putOnGloves_1 : decode cX3_putOnGloves 1 = .ok (.aload_n 0, 1) := by decide +kernel
theorem dX3_putOnGloves_2 : decode cX3_putOnGloves 2 = .ok (.getfield 72, 3) := by decide +kernel
theorem dX3_putOnGloves_5 : decode cX3_putOnGloves 5 = .ok (.ifCond .eq 19, 3) := by decide +kernel
theorem dX3_putOnGloves_8 : decode cX3_putOnGloves 8 = .ok (.aload_n 0, 1) := by decide +kernel
theorem dX3_putOnGloves_9 : decode cX3_putOnGloves 9 = .ok (.getfield 29, 3) := by decide +kernel
theorem dX3_putOnGloves_12 : decode cX3_putOnGloves 12 = .ok (.aload_n 0, 1) := by decide +kernel
theorem dX3_putOnGloves_13 : decode cX3_putOnGloves 13 = .ok (.getfield 69, 3) := by decide +kernel
theorem dX3_putOnGloves_16 : decode cX3_putOnGloves 16 = .ok (.iaload, 1) := by decide +kernel
theorem dX3_putOnGloves_17 : decode cX3_putOnGloves 17 = .ok (.ifCond .ne 7, 3) := by decide +kernel
theorem dX3_putOnGloves_20 : decode cX3_putOnGloves 20 = .ok (.iconst 0, 1) := by decide +kernel
theorem dX3_putOnGloves_21 : decode cX3_putOnGloves 21 = .ok (.goto 4, 3) := by decide +kernel
theorem dX3_putOnGloves_24 : decode cX3_putOnGloves 24 = .ok (.iconst 1, 1) := by decide +kernel
theorem dX3_putOnGloves_25 : decode cX3_putOnGloves 25 = .ok (.putfield 41, 3) := by decide +kernel
theorem dX3_putOnGloves_28 : decode cX3_putOnGloves 28 = .ok (.aload_n 0, 1) := by decide +kernel
theorem dX3_putOnGloves_29 : decode cX3_putOnGloves 29 = .ok (.getfield 41, 3) := by decide +kernel
theorem dX3_putOnGloves_32 : decode cX3_putOnGloves 32 = .ok (.ifCond .eq 5, 3) := by decide +kernel
theorem dX3_putOnGloves_35 : decode cX3_putOnGloves 35 = .ok (.iconst 0, 1) := by decide +kernel
theorem dX3_putOnGloves_36 : decode cX3_putOnGloves 36 = .ok (.ireturn, 1) := by decide +kernel
theorem dX3_putOnGloves_37 : decode cX3_putOnGloves 37 = .ok (.aload_n 0, 1) := by decide +kernel
theorem dX3_putOnGloves_38 : decode cX3_putOnGloves 38 = .ok (.getfield 29, 3) := by decide +kernel
theorem dX3_putOnGloves_41 : decode cX3_putOnGloves 41 = .ok (.aload_n 0, 1) := by decide +kernel
theorem dX3_putOnGloves_42 : decode cX3_putOnGloves 42 = .ok (.getfield 69, 3) := by decide +kernel
theorem dX3_putOnGloves_45 : decode cX3_putOnGloves 45 = .ok (.iconst 1, 1) := by decide +kernel
theorem dX3_putOnGloves_46 : decode cX3_putOnGloves 46 = .ok (.iastore, 1) := by decide +kernel
theorem dX3_putOnGloves_47 : decode cX3_putOnGloves 47 = .ok (.aload_n 0, 1) := by decide +kernel
theorem dX3_putOnGloves_48 : decode cX3_putOnGloves 48 = .ok (.getfield 69, 3) := by decide +kernel
theorem dX3_putOnGloves_51 : decode cX3_putOnGloves 51 = .ok (.ireturn, 1) := by decide +kernel
set_option maxRecDepth 20000 in
theorem ggX3_whyNot_X3_isCard : GoodIn wsX3_whyNot wsX3_isCard := goodIn_r _ [5] (by decide +kernel) (by decide +kernel)
set_option maxRecDepth 20000 in
theorem gX3_whyNot_X3_isCard : GoodIn wsX3_whyNot (va_wsS RX3 100 yX3_isCard wsX3_isCard) := goodIn_app (goodIn_of _ (by decide +kernel)) ggX3_whyNot_X3_isCard
set_option maxRecDepth 20000 in
theorem ggX3_whyNot_X3_why : GoodIn wsX3_whyNot wsX3_why := goodIn_r _ [9, 10, 11, 12, 13, 14, 15, 16, 4, 17, 18, 19, 20, 21, 22, 23, 24, 25, 26, 27, 28, 29, 30, 31, 32, 33, 34, 35, 36, 37, 38, 39, 40, 41, 42, 43, 44, 45, 46, 47, 48, 49, 50, 51, 52, 53] (by decide +kernel) (by decide +kernel)
set_option maxRecDepth 20000 in
theorem gX3_whyNot_X3_why : GoodIn wsX3_whyNot (wsV RX3 103 RX3 yX3_why wsX3_why) := goodIn_app (goodIn_of _ (by decide +kernel)) ggX3_whyNot_X3_why
theorem dX3_whyNot_0 : decode cX3_whyNot 0 = .ok (.aload_n 0, 1) := by decide +kernel
theorem dX3_whyNot_1 : decode cX3_whyNot 1 = .ok (.iload_n 1, 1) := by decide +kernel
theorem dX3_whyNot_2 : decode cX3_whyNot 2 = .ok (.invokestatic 100, 3) := by decide +kernel
theorem dX3_whyNot_5 : decode cX3_whyNot 5 = .ok (.ifCond .eq 7, 3) := by decide +kernel
theorem dX3_whyNot_8 : decode cX3_whyNot 8 = .ok (.iconst 0, 1) := by decide +kernel
theorem dX3_whyNot_9 : decode cX3_whyNot 9 = .ok (.goto 4, 3) := by decide +kernel
theorem dX3_whyNot_12 : decode cX3_whyNot 12 = .ok (.iconst 1, 1) := by decide +kernel
theorem dX3_whyNot_13 : decode cX3_whyNot 13 = .ok (.putfield 41, 3) := by decide +kernel
theorem dX3_whyNot_16 : decode cX3_whyNot 16 = .ok (.aload_n 0, 1) := by decide +kernel
theorem dX3_whyNot_17 : decode cX3_whyNot 17 = .ok (.getfield 41, 3) := by decide +kernel
theorem dX3_whyNot_20 : decode cX3_whyNot 20 = .ok (.ifCond .ne 11, 3) := by decide +kernel
theorem dX3_whyNot_23 : decode cX3_whyNot 23 = .ok (.aload_n 0, 1) := by decide +kernel
theorem dX3_whyNot_24 : decode cX3_whyNot 24 = .ok (.iload_n 1, 1) := by decide +kernel
theorem dX3_whyNot_25 : decode cX3_whyNot 25 = .ok (.invokevirtual 103, 3) := by decide +kernel
theorem dX3_whyNot_28 : decode cX3_whyNot 28 = .ok (.goto 4, 3) := by decide +kernel
theorem dX3_whyNot_31 : decode cX3_whyNot 31 = .ok (.iconst 0, 1) := by decide +kernel
theorem dX3_whyNot_32 : decode cX3_whyNot 32 = .ok (.ireturn, 1) := by decide +kernel
theorem dX3_isPlaying_0 : decode cX3_isPlaying 0 = .ok (.aload_n 0, 1) := by decide +kernel
theorem dX3_isPlaying_1 : decode cX3_isPlaying 1 = .ok (.iconst 0, 1) := by decide +kernel
theorem dX3_isPlaying_2 : decode cX3_isPlaying 2 = .ok (.putfield 41, 3) := by decide +kernel
theorem dX3_isPlaying_5 : decode cX3_isPlaying 5 = .ok (.aload_n 0, 1) := by decide +kernel
theorem dX3_isPlaying_6 : decode cX3_isPlaying 6 = .ok (.getfield 72, 3) := by decide +kernel
theorem dX3_isPlaying_9 : decode cX3_isPlaying 9 = .ok (.ireturn, 1) := by decide +kernel
theorem dX3_turn_0 : decode cX3_turn 0 = .ok (.aload_n 0, 1) := by decide +kernel
theorem dX3_turn_1 : decode cX3_turn 1 = .ok (.iconst 0, 1) := by decide +kernel
theorem dX3_turn_2 : decode cX3_turn 2 = .ok (.putfield 41, 3) := by decide +kernel
theorem dX3_turn_5 : decode cX3_turn 5 = .ok (.aload_n 0, 1) := by decide +kernel
theorem dX3_turn_6 : decode cX3_turn 6 = .ok (.getfield 72, 3) := by decide +kernel
theorem dX3_turn_9 : decode cX3_turn 9 = .ok (.ifCond .eq 10, 3) := by decide +kernel
theorem dX3_turn_12 : decode cX3_turn 12 = .ok (.aload_n 0, 1) := by decide +kernel
theorem dX3_turn_13 : decode cX3_turn 13 = .ok (.getfield 69, 3) := by decide +kernel
theorem dX3_turn_16 : decode cX3_turn 16 = .ok (.goto 4, 3) := by decide +kernel
theorem dX3_turn_19 : decode cX3_turn 19 = .ok (.iconst (-1), 1) := by decide +kernel
theorem dX3_turn_20 : decode cX3_turn 20 = .ok (.ireturn, 1) := by decide +kernel
theorem dX3_led_0 : decode cX3_led 0 = .ok (.aload_n 0, 1) := by decide +kernel
theorem dX3_led_1 : decode cX3_led 1 = .ok (.iconst 0, 1) := by decide +kernel
theorem dX3_led_2 : decode cX3_led 2 = .ok (.putfield 41, 3) := by decide +kernel
theorem dX3_led_5 : decode cX3_led 5 = .ok (.aload_n 0, 1) := by decide +kernel
theorem dX3_led_6 : decode cX3_led 6 = .ok (.getfield 16, 3) := by decide +kernel
theorem dX3_led_9 : decode cX3_led 9 = .ok (.ireturn, 1) := by decide +kernel
theorem dX3_trumps_0 : decode cX3_trumps 0 = .ok (.aload_n 0, 1) := by decide +kernel
theorem dX3_trumps_1 : decode cX3_trumps 1 = .ok (.iconst 0, 1) := by decide +kernel
theorem dX3_trumps_2 : decode cX3_trumps 2 = .ok (.putfield 41, 3) := by decide +kernel
theorem dX3_trumps_5 : decode cX3_trumps 5 = .ok (.aload_n 0, 1) := by decide +kernel
theorem dX3_trumps_6 : decode cX3_trumps 6 = .ok (.getfield 20, 3) := by decide +kernel
theorem dX3_trumps_9 : decode cX3_trumps 9 = .ok (.ireturn, 1) := by decide +kernel
set_option maxRecDepth 20000 in
theorem ggX3_pile_X3_inPile : GoodIn wsX3_pile wsX3_inPile := goodIn_r _ [6, 7, 8, 9, 10, 11, 12, 13, 14, 15, 16, 17, 18, 19, 20, 21, 22, 23] (by decide +kernel) (by decide +kernel)
set_option maxRecDepth 20000 in
theorem gX3_pile_X3_inPile : GoodIn wsX3_pile (wsV RX3 82 RX3 yX3_inPile wsX3_inPile) := goodIn_app (goodIn_of _ (by decide +kernel)) ggX3_pile_X3_inPile
theorem dX3_pile_0 : decode cX3_pile 0 = .ok (.aload_n 0, 1) := by decide +kernel
theorem dX3_pile_1 : decode cX3_pile 1 = .ok (.iconst 0, 1) := by decide +kernel
theorem dX3_pile_2 : decode cX3_pile 2 = .ok (.putfield 41, 3) := by decide +kernel
theorem dX3_pile_5 : decode cX3_pile 5 = .ok (.aload_n 0, 1) := by decide +kernel
theorem dX3_pile_6 : decode cX3_pile 6 = .ok (.invokevirtual 82, 3) := by decide +kernel
theorem dX3_pile_9 : decode cX3_pile 9 = .ok (.ireturn, 1) := by decide +kernel
set_option maxRecDepth 20000 in
theorem ggX3_cards_X3_isArchivist : GoodIn wsX3_cards wsX3_isArchivist := goodIn_r _ [5] (by decide +kernel) (by decide +kernel)
set_option maxRecDepth 20000 in
theorem gX3_cards_X3_isArchivist : GoodIn wsX3_cards (va_wsS RX3 109 yX3_isArchivist wsX3_isArchivist) := goodIn_app (goodIn_of _ (by decide +kernel)) ggX3_cards_X3_isArchivist
set_option maxRecDepth 20000 in
theorem ggX3_cards_X3_howMany : GoodIn wsX3_cards wsX3_howMany := goodIn_r _ [9, 10, 11, 12, 13, 14, 15, 16, 17, 18, 19, 20, 21, 22, 23, 24, 25, 26] (by decide +kernel) (by decide +kernel)
set_option maxRecDepth 20000 in
theorem gX3_cards_X3_howMany : GoodIn wsX3_cards (wsV RX3 97 RX3 yX3_howMany wsX3_howMany) := goodIn_app (goodIn_of _ (by decide +kernel)) ggX3_cards_X3_howMany
theorem dX3_cards_0 : decode cX3_cards 0 = .ok (.aload_n 0, 1) := by decide +kernel
theorem dX3_cards_1 : decode cX3_cards 1 = .ok (.iload_n 1, 1) := by decide +kernel
theorem dX3_cards_2 : decode cX3_cards 2 = .ok (.invokestatic 109, 3) := by decide +kernel
theorem dX3_cards_5 : decode cX3_cards 5 = .ok (.ifCond .eq 7, 3) := by decide +kernel
theorem dX3_cards_8 : decode cX3_cards 8 = .ok (.iconst 0, 1) := by decide +kernel
theorem dX3_cards_9 : decode cX3_cards 9 = .ok (.goto 4, 3) := by decide +kernel
theorem dX3_cards_12 : decode cX3_cards 12 = .ok (.iconst 1, 1) := by decide +kernel
theorem dX3_cards_13 : decode cX3_cards 13 = .ok (.putfield 41, 3) := by decide +kernel
theorem dX3_cards_16 : decode cX3_cards 16 = .ok (.aload_n 0, 1) := by decide +kernel
theorem dX3_cards_17 : decode cX3_cards 17 = .ok (.getfield 41, 3) := by decide +kernel
theorem dX3_cards_20 : decode cX3_cards 20 = .ok (.ifCond .ne 11, 3) := by decide +kernel
theorem dX3_cards_23 : decode cX3_cards 23 = .ok (.aload_n 0, 1) := by decide +kernel
theorem dX3_cards_24 : decode cX3_cards 24 = .ok (.iload_n 1, 1) := by decide +kernel
theorem dX3_cards_25 : decode cX3_cards 25 = .ok (.invokevirtual 97, 3) := by decide +kernel
theorem dX3_cards_28 : decode cX3_cards 28 = .ok (.goto 4, 3) := by decide +kernel
theorem dX3_cards_31 : decode cX3_cards 31 = .ok (.iconst 0, 1) := by decide +kernel
theorem dX3_cards_32 : decode cX3_cards 32 = .ok (.ireturn, 1) := by decide +kernel
set_option maxRecDepth 20000 in
theorem ggX3_cardAt_X3_isArchivist : GoodIn wsX3_cardAt wsX3_isArchivist := goodIn_r _ [7] (by decide +kernel) (by decide +kernel)
set_option maxRecDepth 20000 in
theorem gX3_cardAt_X3_isArchivist : GoodIn wsX3_cardAt (va_wsS RX3 109 yX3_isArchivist wsX3_isArchivist) := goodIn_app (goodIn_of _ (by decide +kernel)) ggX3_cardAt_X3_isArchivist
theorem dX3_cardAt_0 : decode cX3_cardAt 0 = .ok (.aload_n 0, 1) := by decide +kernel
theorem dX3_cardAt_1 : decode cX3_cardAt 1 = .ok (.iconst 1, 1) := by decide +kernel
theorem dX3_cardAt_2 : decode cX3_cardAt 2 = .ok (.putfield 41, 3) := by decide +kernel
theorem dX3_cardAt_5 : decode cX3_cardAt 5 = .ok (.iload_n 2, 1) := by decide +kernel
theorem dX3_cardAt_6 : decode cX3_cardAt 6 = .ok (.istore_n 3, 1) := by decide +kernel
theorem dX3_cardAt_7 : decode cX3_cardAt 7 = .ok (.iconst 0, 1) := by decide +kernel
theorem dX3_cardAt_8 : decode cX3_cardAt 8 = .ok (.istore 4, 2) := by decide +kernel
theorem dX3_cardAt_10 : decode cX3_cardAt 10 = .ok (.iload 4, 2) := by decide +kernel
theorem dX3_cardAt_12 : decode cX3_cardAt 12 = .ok (.bipush 42, 2) := by decide +kernel
theorem dX3_cardAt_14 : decode cX3_cardAt 14 = .ok (.if_icmp .ge 53, 3) := by decide +kernel
theorem dX3_cardAt_17 : decode cX3_cardAt 17 = .ok (.aload_n 0, 1) := by decide +kernel
theorem dX3_cardAt_18 : decode cX3_cardAt 18 = .ok (.getfield 58, 3) := by decide +kernel
theorem dX3_cardAt_21 : decode cX3_cardAt 21 = .ok (.ifCond .eq 46, 3) := by decide +kernel
theorem dX3_cardAt_24 : decode cX3_cardAt 24 = .ok (.iload_n 1, 1) := by decide +kernel
theorem dX3_cardAt_25 : decode cX3_cardAt 25 = .ok (.invokestatic 109, 3) := by decide +kernel
theorem dX3_cardAt_28 : decode cX3_cardAt 28 = .ok (.ifCond .eq 39, 3) := by decide +kernel
theorem dX3_cardAt_31 : decode cX3_cardAt 31 = .ok (.iload_n 2, 1) := by decide +kernel
theorem dX3_cardAt_32 : decode cX3_cardAt 32 = .ok (.ifCond .lt 35, 3) := by decide +kernel
theorem dX3_cardAt_35 : decode cX3_cardAt 35 = .ok (.aload_n 0, 1) := by decide +kernel
theorem dX3_cardAt_36 : decode cX3_cardAt 36 = .ok (.getfield 7, 3) := by decide +kernel
theorem dX3_cardAt_39 : decode cX3_cardAt 39 = .ok (.iload 4, 2) := by decide +kernel
theorem dX3_cardAt_41 : decode cX3_cardAt 41 = .ok (.iaload, 1) := by decide +kernel
theorem dX3_cardAt_42 : decode cX3_cardAt 42 = .ok (.iload_n 1, 1) := by decide +kernel
theorem dX3_cardAt_43 : decode cX3_cardAt 43 = .ok (.if_icmp .ne 18, 3) := by decide +kernel
theorem dX3_cardAt_46 : decode cX3_cardAt 46 = .ok (.iload_n 3, 1) := by decide +kernel
theorem dX3_cardAt_47 : decode cX3_cardAt 47 = .ok (.ifCond .ne 11, 3) := by decide +kernel
theorem dX3_cardAt_50 : decode cX3_cardAt 50 = .ok (.aload_n 0, 1) := by decide +kernel
theorem dX3_cardAt_51 : decode cX3_cardAt 51 = .ok (.iconst 0, 1) := by decide +kernel
theorem dX3_cardAt_52 : decode cX3_cardAt 52 = .ok (.putfield 41, 3) := by decide +kernel
theorem dX3_cardAt_55 : decode cX3_cardAt 55 = .ok (.iload 4, 2) := by decide +kernel
theorem dX3_cardAt_57 : decode cX3_cardAt 57 = .ok (.ireturn, 1) := by decide +kernel
theorem dX3_cardAt_58 : decode cX3_cardAt 58 = .ok (.iinc 3 (-1), 3) := by decide +kernel
theorem dX3_cardAt_61 : decode cX3_cardAt 61 = .ok (.iinc 4 1, 3) := by decide +kernel
theorem dX3_cardAt_64 : decode cX3_cardAt 64 = .ok (.goto (-54), 3) := by decide +kernel
theorem dX3_cardAt_67 : decode cX3_cardAt 67 = .ok (.iconst 0, 1) := by decide +kernel
theorem dX3_cardAt_68 : decode cX3_cardAt 68 = .ok (.ireturn, 1) := by decide +kernel
set_option maxRecDepth 20000 in
theorem ggX3_placeOf_X3_isCard : GoodIn wsX3_placeOf wsX3_isCard := goodIn_r _ [7] (by decide +kernel) (by decide +kernel)
set_option maxRecDepth 20000 in
theorem gX3_placeOf_X3_isCard : GoodIn wsX3_placeOf (va_wsS RX3 100 yX3_isCard wsX3_isCard) := goodIn_app (goodIn_of _ (by decide +kernel)) ggX3_placeOf_X3_isCard
theorem dX3_placeOf_0 : decode cX3_placeOf 0 = .ok (.aload_n 0, 1) := by decide +kernel
theorem dX3_placeOf_1 : decode cX3_placeOf 1 = .ok (.iload_n 1, 1) := by decide +kernel
theorem dX3_placeOf_2 : decode cX3_placeOf 2 = .ok (.invokestatic 100, 3) := by decide +kernel
theorem dX3_placeOf_5 : decode cX3_placeOf 5 = .ok (.ifCond .eq 7, 3) := by decide +kernel
theorem dX3_placeOf_8 : decode cX3_placeOf 8 = .ok (.iconst 0, 1) := by decide +kernel
theorem dX3_placeOf_9 : decode cX3_placeOf 9 = .ok (.goto 4, 3) := by decide +kernel
theorem dX3_placeOf_12 : decode cX3_placeOf 12 = .ok (.iconst 1, 1) := by decide +kernel
theorem dX3_placeOf_13 : decode cX3_placeOf 13 = .ok (.putfield 41, 3) := by decide +kernel
theorem dX3_placeOf_16 : decode cX3_placeOf 16 = .ok (.aload_n 0, 1) := by decide +kernel
theorem dX3_placeOf_17 : decode cX3_placeOf 17 = .ok (.getfield 41, 3) := by decide +kernel
theorem dX3_placeOf_20 : decode cX3_placeOf 20 = .ok (.ifCond .eq 7, 3) := by decide +kernel
theorem dX3_placeOf_23 : decode cX3_placeOf 23 = .ok (.iconst 0, 1) := by decide +kernel
theorem dX3_placeOf_24 : decode cX3_placeOf 24 = .ok (.goto 20, 3) := by decide +kernel
theorem dX3_placeOf_27 : decode cX3_placeOf 27 = .ok (.aload_n 0, 1) := by decide +kernel
theorem dX3_placeOf_28 : decode cX3_placeOf 28 = .ok (.getfield 58, 3) := by decide +kernel
theorem dX3_placeOf_31 : decode cX3_placeOf 31 = .ok (.ifCond .eq 12, 3) := by decide +kernel
theorem dX3_placeOf_34 : decode cX3_placeOf 34 = .ok (.aload_n 0, 1) := by decide +kernel
theorem dX3_placeOf_35 : decode cX3_placeOf 35 = .ok (.getfield 7, 3) := by decide +kernel
theorem dX3_placeOf_38 : decode cX3_placeOf 38 = .ok (.iload_n 1, 1) := by decide +kernel
theorem dX3_placeOf_39 : decode cX3_placeOf 39 = .ok (.iaload, 1) := by decide +kernel
theorem dX3_placeOf_40 : decode cX3_placeOf 40 = .ok (.goto 4, 3) := by decide +kernel
theorem dX3_placeOf_43 : decode cX3_placeOf 43 = .ok (.iconst (-1), 1) := by decide +kernel
theorem dX3_placeOf_44 : decode cX3_placeOf 44 = .ok (.ireturn, 1) := by decide +kernel
set_option maxRecDepth 20000 in
theorem ggX3_of_X3_isArchivist : GoodIn wsX3_of wsX3_isArchivist := goodIn_r _ [5] (by decide +kernel) (by decide +kernel)
set_option maxRecDepth 20000 in
theorem gX3_of_X3_isArchivist : GoodIn wsX3_of (va_wsS RX3 109 yX3_isArchivist wsX3_isArchivist) := goodIn_app (goodIn_of _ (by decide +kernel)) ggX3_of_X3_isArchivist
theorem dX3_of_0 : decode cX3_of 0 = .ok (.aload_n 0, 1) := by decide +kernel
theorem dX3_of_1 : decode cX3_of 1 = .ok (.iload_n 2, 1) := by decide +kernel
theorem dX3_of_2 : decode cX3_of 2 = .ok (.invokestatic 109, 3) := by decide +kernel
theorem dX3_of_5 : decode cX3_of 5 = .ok (.ifCond .eq 7, 3) := by decide +kernel
theorem dX3_of_8 : decode cX3_of 8 = .ok (.iconst 0, 1) := by decide +kernel
theorem dX3_of_9 : decode cX3_of 9 = .ok (.goto 4, 3) := by decide +kernel
theorem dX3_of_12 : decode cX3_of 12 = .ok (.iconst 1, 1) := by decide +kernel
theorem dX3_of_13 : decode cX3_of 13 = .ok (.putfield 41, 3) := by decide +kernel
theorem dX3_of_16 : decode cX3_of 16 = .ok (.aload_n 0, 1) := by decide +kernel
theorem dX3_of_17 : decode cX3_of 17 = .ok (.getfield 41, 3) := by decide +kernel
theorem dX3_of_20 : decode cX3_of 20 = .ok (.ifCond .ne 9, 3) := by decide +kernel
theorem dX3_of_23 : decode cX3_of 23 = .ok (.aload_n 1, 1) := by decide +kernel
theorem dX3_of_24 : decode cX3_of 24 = .ok (.iload_n 2, 1) := by decide +kernel
theorem dX3_of_25 : decode cX3_of 25 = .ok (.iaload, 1) := by decide +kernel
theorem dX3_of_26 : decode cX3_of 26 = .ok (.goto 4, 3) := by decide +kernel
theorem dX3_of_29 : decode cX3_of 29 = .ok (.iconst 0, 1) := by decide +kernel
theorem dX3_of_30 : decode cX3_of 30 = .ok (.ireturn, 1) := by decide +kernel
set_option maxRecDepth 20000 in
theorem ggX3_points_X3_of : GoodIn wsX3_points wsX3_of := goodIn_r _ [6, 7, 8, 9, 5, 10, 11, 12, 13, 14, 15, 16, 17, 18, 19, 20, 21, 22, 23, 24, 25] (by decide +kernel) (by decide +kernel)
set_option maxRecDepth 20000 in
theorem gX3_points_X3_of : GoodIn wsX3_points (wsV RX3 112 RX3 yX3_of wsX3_of) := goodIn_app (goodIn_of _ (by decide +kernel)) ggX3_points_X3_of
theorem dX3_points_0 : decode cX3_points 0 = .ok (.aload_n 0, 1) := by decide +kernel
theorem dX3_points_1 : decode cX3_points 1 = .ok (.aload_n 0, 1) := by decide +kernel
theorem dX3_points_2 : decode cX3_points 2 = .ok (.getfield 23, 3) := by decide +kernel
theorem dX3_points_5 : decode cX3_points 5 = .ok (.iload_n 1, 1) := by decide +kernel
theorem dX3_points_6 : decode cX3_points 6 = .ok (.invokevirtual 112, 3) := by decide +kernel
theorem dX3_points_9 : decode cX3_points 9 = .ok (.ireturn, 1) := by decide +kernel
set_option maxRecDepth 20000 in
theorem ggX3_tricks_X3_of : GoodIn wsX3_tricks wsX3_of := goodIn_r _ [6, 7, 8, 9, 5, 10, 11, 12, 13, 14, 15, 16, 17, 18, 19, 20, 21, 22, 23, 24, 25] (by decide +kernel) (by decide +kernel)
set_option maxRecDepth 20000 in
theorem gX3_tricks_X3_of : GoodIn wsX3_tricks (wsV RX3 112 RX3 yX3_of wsX3_of) := goodIn_app (goodIn_of _ (by decide +kernel)) ggX3_tricks_X3_of
theorem dX3_tricks_0 : decode cX3_tricks 0 = .ok (.aload_n 0, 1) := by decide +kernel
theorem dX3_tricks_1 : decode cX3_tricks 1 = .ok (.aload_n 0, 1) := by decide +kernel
theorem dX3_tricks_2 : decode cX3_tricks 2 = .ok (.getfield 26, 3) := by decide +kernel
theorem dX3_tricks_5 : decode cX3_tricks 5 = .ok (.iload_n 1, 1) := by decide +kernel
theorem dX3_tricks_6 : decode cX3_tricks 6 = .ok (.invokevirtual 112, 3) := by decide +kernel
theorem dX3_tricks_9 : decode cX3_tricks 9 = .ok (.ireturn, 1) := by decide +kernel
set_option maxRecDepth 20000 in
theorem ggX3_gloves_X3_of : GoodIn wsX3_gloves wsX3_of := goodIn_r _ [6, 7, 8, 9, 5, 10, 11, 12, 13, 14, 15, 16, 17, 18, 19, 20, 21, 22, 23, 24, 25] (by decide +kernel) (by decide +kernel)
set_option maxRecDepth 20000 in
theorem gX3_gloves_X3_of : GoodIn wsX3_gloves (wsV RX3 112 RX3 yX3_of wsX3_of) := goodIn_app (goodIn_of _ (by decide +kernel)) ggX3_gloves_X3_of
theorem dX3_gloves_0 : decode cX3_gloves 0 = .ok (.aload_n 0, 1) := by decide +kernel
theorem dX3_gloves_1 : decode cX3_gloves 1 = .ok (.aload_n 0, 1) := by decide +kernel
theorem dX3_gloves_2 : decode cX3_gloves 2 = .ok (.getfield 29, 3) := by decide +kernel
theorem dX3_gloves_5 : decode cX3_gloves 5 = .ok (.iload_n 1, 1) := by decide +kernel
theorem dX3_gloves_6 : decode cX3_gloves 6 = .ok (.invokevirtual 112, 3) := by decide +kernel
theorem dX3_gloves_9 : decode cX3_gloves 9 = .ok (.ireturn, 1) := by decide +kernel
set_option maxRecDepth 20000 in
theorem ggX3_choices_X3_why : GoodIn wsX3_choices wsX3_why := goodIn_r _ [6, 7, 8, 9, 10, 11, 12, 13, 5, 14, 15, 16, 17, 18, 19, 20, 21, 22, 23, 24, 25, 26, 27, 28, 29, 30, 31, 32, 33, 34, 35, 36, 37, 38, 39, 40, 41, 42, 43, 44, 45, 46, 47, 48, 49, 50] (by decide +kernel) (by decide +kernel)
set_option maxRecDepth 20000 in
theorem gX3_choices_X3_why : GoodIn wsX3_choices (wsV RX3 103 RX3 yX3_why wsX3_why) := goodIn_app (goodIn_of _ (by decide +kernel)) ggX3_choices_X3_why
theorem dX3_choices_0 : decode cX3_choices 0 = .ok (.aload_n 0, 1) := by decide +kernel
theorem dX3_choices_1 : decode cX3_choices 1 = .ok (.iconst 0, 1) := by decide +kernel
theorem dX3_choices_2 : decode cX3_choices 2 = .ok (.putfield 41, 3) := by decide +kernel
theorem dX3_choices_5 : decode cX3_choices 5 = .ok (.iconst 0, 1) := by decide +kernel
theorem dX3_choices_6 : decode cX3_choices 6 = .ok (.istore_n 1, 1) := by decide +kernel
theorem dX3_choices_7 : decode cX3_choices 7 = .ok (.iconst 0, 1) := by decide +kernel
theorem dX3_choices_8 : decode cX3_choices 8 = .ok (.istore_n 2, 1) := by decide +kernel
theorem dX3_choices_9 : decode cX3_choices 9 = .ok (.iload_n 2, 1) := by decide +kernel
theorem dX3_choices_10 : decode cX3_choices 10 = .ok (.bipush 42, 2) := by decide +kernel
theorem dX3_choices_12 : decode cX3_choices 12 = .ok (.if_icmp .ge 25, 3) := by decide +kernel
theorem dX3_choices_15 : decode cX3_choices 15 = .ok (.iload_n 1, 1) := by decide +kernel
theorem dX3_choices_16 : decode cX3_choices 16 = .ok (.aload_n 0, 1) := by decide +kernel
theorem dX3_choices_17 : decode cX3_choices 17 = .ok (.iload_n 2, 1) := by decide +kernel
theorem dX3_choices_18 : decode cX3_choices 18 = .ok (.invokevirtual 103, 3) := by decide +kernel
theorem dX3_choices_21 : decode cX3_choices 21 = .ok (.ifCond .ne 7, 3) := by decide +kernel
theorem dX3_choices_24 : decode cX3_choices 24 = .ok (.iconst 1, 1) := by decide +kernel
theorem dX3_choices_25 : decode cX3_choices 25 = .ok (.goto 4, 3) := by decide +kernel
theorem dX3_choices_28 : decode cX3_choices 28 = .ok (.iconst 0, 1) := by decide +kernel
theorem dX3_choices_29 : decode cX3_choices 29 = .ok (.iadd, 1) := by decide +kernel
theorem dX3_choices_30 : decode cX3_choices 30 = .ok (.istore_n 1, 1) := by decide +kernel
theorem dX3_choices_31 : decode cX3_choices 31 = .ok (.iinc 2 1, 3) := by decide +kernel
theorem dX3_choices_34 : decode cX3_choices 34 = .ok (.goto (-25), 3) := by decide +kernel
theorem dX3_choices_37 : decode cX3_choices 37 = .ok (.iload_n 1, 1) := by decide +kernel
theorem dX3_choices_38 : decode cX3_choices 38 = .ok (.ireturn, 1) := by decide +kernel
set_option maxRecDepth 20000 in
theorem ggX3_wouldTake_X3_isCard : GoodIn wsX3_wouldTake wsX3_isCard := goodIn_r _ [7] (by decide +kernel) (by decide +kernel)
set_option maxRecDepth 20000 in
theorem gX3_wouldTake_X3_isCard : GoodIn wsX3_wouldTake (va_wsS RX3 100 yX3_isCard wsX3_isCard) := goodIn_app (goodIn_of _ (by decide +kernel)) ggX3_wouldTake_X3_isCard
set_option maxRecDepth 20000 in
theorem ggX3_wouldTake_X3_takes : GoodIn wsX3_wouldTake wsX3_takes := goodIn_r _ [11, 12, 13, 6, 14, 15, 16, 17, 18, 19, 20, 21, 22, 23, 24, 25, 26, 27, 28, 29, 30, 31, 32, 33, 34, 35, 36, 37] (by decide +kernel) (by decide +kernel)
set_option maxRecDepth 20000 in
theorem gX3_wouldTake_X3_takes : GoodIn wsX3_wouldTake (wsV RX3 86 RX3 yX3_takes wsX3_takes) := goodIn_app (goodIn_of _ (by decide +kernel)) ggX3_wouldTake_X3_takes
theorem dX3_wouldTake_0 : decode cX3_wouldTake 0 = .ok (.aload_n 0, 1) := by decide +kernel
theorem dX3_wouldTake_1 : decode cX3_wouldTake 1 = .ok (.iload_n 1, 1) := by decide +kernel
theorem dX3_wouldTake_2 : decode cX3_wouldTake 2 = .ok (.invokestatic 100, 3) := by decide +kernel
theorem dX3_wouldTake_5 : decode cX3_wouldTake 5 = .ok (.ifCond .ne 7, 3) := by decide +kernel
theorem dX3_wouldTake_8 : decode cX3_wouldTake 8 = .ok (.iconst 1, 1) := by decide +kernel
theorem dX3_wouldTake_9 : decode cX3_wouldTake 9 = .ok (.goto 23, 3) := by decide +kernel
theorem dX3_wouldTake_12 : decode cX3_wouldTake 12 = .ok (.aload_n 0, 1) := by decide +kernel
theorem dX3_wouldTake_13 : decode cX3_wouldTake 13 = .ok (.getfield 16, 3) := by decide +kernel
theorem dX3_wouldTake_16 : decode cX3_wouldTake 16 = .ok (.ifCond .lt 11, 3) := by decide +kernel
theorem dX3_wouldTake_19 : decode cX3_wouldTake 19 = .ok (.aload_n 0, 1) := by decide +kernel
theorem dX3_wouldTake_20 : decode cX3_wouldTake 20 = .ok (.getfield 16, 3) := by decide +kernel
theorem dX3_wouldTake_23 : decode cX3_wouldTake 23 = .ok (.iload_n 1, 1) := by decide +kernel
theorem dX3_wouldTake_24 : decode cX3_wouldTake 24 = .ok (.if_icmp .ne 7, 3) := by decide +kernel
theorem dX3_wouldTake_27 : decode cX3_wouldTake 27 = .ok (.iconst 2, 1) := by decide +kernel
theorem dX3_wouldTake_28 : decode cX3_wouldTake 28 = .ok (.goto 4, 3) := by decide +kernel
theorem dX3_wouldTake_31 : decode cX3_wouldTake 31 = .ok (.iconst 0, 1) := by decide +kernel
theorem dX3_wouldTake_32 : decode cX3_wouldTake 32 = .ok (.putfield 41, 3) := by decide +kernel
theorem dX3_wouldTake_35 : decode cX3_wouldTake 35 = .ok (.aload_n 0, 1) := by decide +kernel
theorem dX3_wouldTake_36 : decode cX3_wouldTake 36 = .ok (.getfield 41, 3) := by decide +kernel
theorem dX3_wouldTake_39 : decode cX3_wouldTake 39 = .ok (.ifCond .eq 7, 3) := by decide +kernel
theorem dX3_wouldTake_42 : decode cX3_wouldTake 42 = .ok (.iconst 0, 1) := by decide +kernel
theorem dX3_wouldTake_43 : decode cX3_wouldTake 43 = .ok (.goto 28, 3) := by decide +kernel
theorem dX3_wouldTake_46 : decode cX3_wouldTake 46 = .ok (.aload_n 0, 1) := by decide +kernel
theorem dX3_wouldTake_47 : decode cX3_wouldTake 47 = .ok (.iload_n 1, 1) := by decide +kernel
theorem dX3_wouldTake_48 : decode cX3_wouldTake 48 = .ok (.aload_n 0, 1) := by decide +kernel
theorem dX3_wouldTake_49 : decode cX3_wouldTake 49 = .ok (.getfield 16, 3) := by decide +kernel
theorem dX3_wouldTake_52 : decode cX3_wouldTake 52 = .ok (.invokevirtual 86, 3) := by decide +kernel
theorem dX3_wouldTake_55 : decode cX3_wouldTake 55 = .ok (.ifCond .eq 10, 3) := by decide +kernel
theorem dX3_wouldTake_58 : decode cX3_wouldTake 58 = .ok (.aload_n 0, 1) := by decide +kernel
theorem dX3_wouldTake_59 : decode cX3_wouldTake 59 = .ok (.getfield 69, 3) := by decide +kernel
theorem dX3_wouldTake_62 : decode cX3_wouldTake 62 = .ok (.goto 9, 3) := by decide +kernel
theorem dX3_wouldTake_65 : decode cX3_wouldTake 65 = .ok (.iconst 1, 1) := by decide +kernel
theorem dX3_wouldTake_66 : decode cX3_wouldTake 66 = .ok (.aload_n 0, 1) := by decide +kernel
theorem dX3_wouldTake_67 : decode cX3_wouldTake 67 = .ok (.getfield 69, 3) := by decide +kernel
theorem dX3_wouldTake_70 : decode cX3_wouldTake 70 = .ok (.isub, 1) := by decide +kernel
theorem dX3_wouldTake_71 : decode cX3_wouldTake 71 = .ok (.ireturn, 1) := by decide +kernel
theorem dX3_laysHands_0 : decode cX3_laysHands 0 = .ok (.iconst 0, 1) := by decide +kernel
theorem dX3_laysHands_1 : decode cX3_laysHands 1 = .ok (.istore_n 1, 1) := by decide +kernel
theorem dX3_laysHands_2 : decode cX3_laysHands 2 = .ok (.iload_n 1, 1) := by decide +kernel
theorem dX3_laysHands_3 : decode cX3_laysHands 3 = .ok (.iconst 2, 1) := by decide +kernel
theorem dX3_laysHands_4 : decode cX3_laysHands 4 = .ok (.if_icmp .ge 50, 3) := by decide +kernel
theorem dX3_laysHands_7 : decode cX3_laysHands 7 = .ok (.iconst 0, 1) := by decide +kernel
theorem dX3_laysHands_8 : decode cX3_laysHands 8 = .ok (.istore_n 2, 1) := by decide +kernel
theorem dX3_laysHands_9 : decode cX3_laysHands 9 = .ok (.iconst 0, 1) := by decide +kernel
theorem dX3_laysHands_10 : decode cX3_laysHands 10 = .ok (.istore_n 3, 1) := by decide +kernel
theorem dX3_laysHands_11 : decode cX3_laysHands 11 = .ok (.iload_n 3, 1) := by decide +kernel
theorem dX3_laysHands_12 : decode cX3_laysHands 12 = .ok (.bipush 42, 2) := by decide +kernel
theorem dX3_laysHands_14 : decode cX3_laysHands 14 = .ok (.if_icmp .ge 34, 3) := by decide +kernel
theorem dX3_laysHands_17 : decode cX3_laysHands 17 = .ok (.aload_n 0, 1) := by decide +kernel
theorem dX3_laysHands_18 : decode cX3_laysHands 18 = .ok (.getfield 7, 3) := by decide +kernel
theorem dX3_laysHands_21 : decode cX3_laysHands 21 = .ok (.iload_n 3, 1) := by decide +kernel
theorem dX3_laysHands_22 : decode cX3_laysHands 22 = .ok (.iaload, 1) := by decide +kernel
theorem dX3_laysHands_23 : decode cX3_laysHands 23 = .ok (.iload_n 1, 1) := by decide +kernel
theorem dX3_laysHands_24 : decode cX3_laysHands 24 = .ok (.if_icmp .ne 18, 3) := by decide +kernel
theorem dX3_laysHands_27 : decode cX3_laysHands 27 = .ok (.aload_n 0, 1) := by decide +kernel
theorem dX3_laysHands_28 : decode cX3_laysHands 28 = .ok (.getfield 35, 3) := by decide +kernel
theorem dX3_laysHands_31 : decode cX3_laysHands 31 = .ok (.bipush 6, 2) := by decide +kernel
theorem dX3_laysHands_33 : decode cX3_laysHands 33 = .ok (.iload_n 1, 1) := by decide +kernel
theorem dX3_laysHands_34 : decode cX3_laysHands 34 = .ok (.imul, 1) := by decide +kernel
theorem dX3_laysHands_35 : decode cX3_laysHands 35 = .ok (.iload_n 2, 1) := by decide +kernel
theorem dX3_laysHands_36 : decode cX3_laysHands 36 = .ok (.iadd, 1) := by decide +kernel
theorem dX3_laysHands_37 : decode cX3_laysHands 37 = .ok (.iload_n 3, 1) := by decide +kernel
theorem dX3_laysHands_38 : decode cX3_laysHands 38 = .ok (.iastore, 1) := by decide +kernel
theorem dX3_laysHands_39 : decode cX3_laysHands 39 = .ok (.iinc 2 1, 3) := by decide +kernel
theorem dX3_laysHands_42 : decode cX3_laysHands 42 = .ok (.iinc 3 1, 3) := by decide +kernel
theorem dX3_laysHands_45 : decode cX3_laysHands 45 = .ok (.goto (-34), 3) := by decide +kernel
theorem dX3_laysHands_48 : decode cX3_laysHands 48 = .ok (.iinc 1 1, 3) := by decide +kernel
theorem dX3_laysHands_51 : decode cX3_laysHands 51 = .ok (.goto (-49), 3) := by decide +kernel
theorem dX3_laysHands_54 : decode cX3_laysHands 54 = .ok (.return_, 1) := by decide +kernel
theorem dX3_many_0 : decode cX3_many 0 = .ok (.iconst 0, 1) := by decide +kernel
theorem dX3_many_1 : decode cX3_many 1 = .ok (.istore_n 1, 1) := by decide +kernel
theorem dX3_many_2 : decode cX3_many 2 = .ok (.iload_n 0, 1) := by decide +kernel
theorem dX3_many_3 : decode cX3_many 3 = .ok (.istore_n 2, 1) := by decide +kernel
theorem dX3_many_4 : decode cX3_many 4 = .ok (.iload_n 2, 1) := by decide +kernel
theorem dX3_many_5 : decode cX3_many 5 = .ok (.ifCond .eq 15, 3) := by decide +kernel
theorem dX3_many_8 : decode cX3_many 8 = .ok (.iinc 1 1, 3) := by decide +kernel
theorem dX3_many_11 : decode cX3_many 11 = .ok (.iload_n 2, 1) := by decide +kernel
theorem dX3_many_12 : decode cX3_many 12 = .ok (.iload_n 2, 1) := by decide +kernel
theorem dX3_many_13 : decode cX3_many 13 = .ok (.iconst 1, 1) := by decide +kernel
theorem dX3_many_14 : decode cX3_many 14 = .ok (.isub, 1) := by decide +kernel
theorem dX3_many_15 : decode cX3_many 15 = .ok (.iand, 1) := by decide +kernel
theorem dX3_many_16 : decode cX3_many 16 = .ok (.istore_n 2, 1) := by decide +kernel
theorem dX3_many_17 : decode cX3_many 17 = .ok (.goto (-13), 3) := by decide +kernel
theorem dX3_many_20 : decode cX3_many 20 = .ok (.iload_n 1, 1) := by decide +kernel
theorem dX3_many_21 : decode cX3_many 21 = .ok (.ireturn, 1) := by decide +kernel
set_option maxRecDepth 20000 in
theorem ggX3_isAmong_X3_isMildew : GoodIn wsX3_isAmong wsX3_isMildew := goodIn_r _ [5] (by decide +kernel) (by decide +kernel)
set_option maxRecDepth 20000 in
theorem gX3_isAmong_X3_isMildew : GoodIn wsX3_isAmong (va_wsS RX3 44 yX3_isMildew wsX3_isMildew) := goodIn_app (goodIn_of _ (by decide +kernel)) ggX3_isAmong_X3_isMildew
set_option maxRecDepth 20000 in
theorem ggX3_isAmong_X3_provenance : GoodIn wsX3_isAmong wsX3_provenance := goodIn_r _ [8] (by decide +kernel) (by decide +kernel)
set_option maxRecDepth 20000 in
theorem gX3_isAmong_X3_provenance : GoodIn wsX3_isAmong (va_wsS RX3 48 yX3_provenance wsX3_provenance) := goodIn_app (goodIn_of _ (by decide +kernel)) ggX3_isAmong_X3_provenance
theorem dX3_isAmong_0 : decode cX3_isAmong 0 = .ok (.iconst 0, 1) := by decide +kernel
theorem dX3_isAmong_1 : decode cX3_isAmong 1 = .ok (.istore 4, 2) := by decide +kernel
theorem dX3_isAmong_3 : decode cX3_isAmong 3 = .ok (.iconst 0, 1) := by decide +kernel
theorem dX3_isAmong_4 : decode cX3_isAmong 4 = .ok (.istore 5, 2) := by decide +kernel
theorem dX3_isAmong_6 : decode cX3_isAmong 6 = .ok (.iload 5, 2) := by decide +kernel
theorem dX3_isAmong_8 : decode cX3_isAmong 8 = .ok (.bipush 6, 2) := by decide +kernel
theorem dX3_isAmong_10 : decode cX3_isAmong 10 = .ok (.if_icmp .ge 66, 3) := by decide +kernel
theorem dX3_isAmong_13 : decode cX3_isAmong 13 = .ok (.aload_n 0, 1) := by decide +kernel
theorem dX3_isAmong_14 : decode cX3_isAmong 14 = .ok (.getfield 35, 3) := by decide +kernel
theorem dX3_isAmong_17 : decode cX3_isAmong 17 = .ok (.bipush 6, 2) := by decide +kernel
theorem dX3_isAmong_19 : decode cX3_isAmong 19 = .ok (.iload_n 1, 1) := by decide +kernel
theorem dX3_isAmong_20 : decode cX3_isAmong 20 = .ok (.imul, 1) := by decide +kernel
theorem dX3_isAmong_21 : decode cX3_isAmong 21 = .ok (.iload 5, 2) := by decide +kernel
theorem dX3_isAmong_23 : decode cX3_isAmong 23 = .ok (.iadd, 1) := by decide +kernel
theorem dX3_isAmong_24 : decode cX3_isAmong 24 = .ok (.iaload, 1) := by decide +kernel
theorem dX3_isAmong_25 : decode cX3_isAmong 25 = .ok (.istore 6, 2) := by decide +kernel
theorem dX3_isAmong_27 : decode cX3_isAmong 27 = .ok (.iload 4, 2) := by decide +kernel
theorem dX3_isAmong_29 : decode cX3_isAmong 29 = .ok (.ifCond .ne 34, 3) := by decide +kernel
theorem dX3_isAmong_32 : decode cX3_isAmong 32 = .ok (.iload_n 2, 1) := by decide +kernel
theorem dX3_isAmong_33 : decode cX3_isAmong 33 = .ok (.iload 5, 2) := by decide +kernel
theorem dX3_isAmong_35 : decode cX3_isAmong 35 = .ok (.ishr, 1) := by decide +kernel
theorem dX3_isAmong_36 : decode cX3_isAmong 36 = .ok (.iconst 1, 1) := by decide +kernel
theorem dX3_isAmong_37 : decode cX3_isAmong 37 = .ok (.iand, 1) := by decide +kernel
theorem dX3_isAmong_38 : decode cX3_isAmong 38 = .ok (.iconst 1, 1) := by decide +kernel
theorem dX3_isAmong_39 : decode cX3_isAmong 39 = .ok (.if_icmp .ne 28, 3) := by decide +kernel
theorem dX3_isAmong_42 : decode cX3_isAmong 42 = .ok (.iload 6, 2) := by decide +kernel
theorem dX3_isAmong_44 : decode cX3_isAmong 44 = .ok (.invokestatic 44, 3) := by decide +kernel
theorem dX3_isAmong_47 : decode cX3_isAmong 47 = .ok (.ifCond .ne 20, 3) := by decide +kernel
theorem dX3_isAmong_50 : decode cX3_isAmong 50 = .ok (.iload_n 3, 1) := by decide +kernel
theorem dX3_isAmong_51 : decode cX3_isAmong 51 = .ok (.ifCond .lt 12, 3) := by decide +kernel
theorem dX3_isAmong_54 : decode cX3_isAmong 54 = .ok (.iload 6, 2) := by decide +kernel
theorem dX3_isAmong_56 : decode cX3_isAmong 56 = .ok (.invokestatic 48, 3) := by decide +kernel
theorem dX3_isAmong_59 : decode cX3_isAmong 59 = .ok (.iload_n 3, 1) := by decide +kernel
theorem dX3_isAmong_60 : decode cX3_isAmong 60 = .ok (.if_icmp .ne 7, 3) := by decide +kernel
theorem dX3_isAmong_63 : decode cX3_isAmong 63 = .ok (.iconst 1, 1) := by decide +kernel
theorem dX3_isAmong_64 : decode cX3_isAmong 64 = .ok (.goto 4, 3) := by decide +kernel
theorem dX3_isAmong_67 : decode cX3_isAmong 67 = .ok (.iconst 0, 1) := by decide +kernel
theorem dX3_isAmong_68 : decode cX3_isAmong 68 = .ok (.istore 4, 2) := by decide +kernel
theorem dX3_isAmong_70 : decode cX3_isAmong 70 = .ok (.iinc 5 1, 3) := by decide +kernel
theorem dX3_isAmong_73 : decode cX3_isAmong 73 = .ok (.goto (-67), 3) := by decide +kernel
theorem dX3_isAmong_76 : decode cX3_isAmong 76 = .ok (.iload 4, 2) := by decide +kernel
theorem dX3_isAmong_78 : decode cX3_isAmong 78 = .ok (.ireturn, 1) := by decide +kernel
set_option maxRecDepth 20000 in
theorem ggX3_canLead_X3_isMildew : GoodIn wsX3_canLead wsX3_isMildew := goodIn_r _ [4] (by decide +kernel) (by decide +kernel)
set_option maxRecDepth 20000 in
theorem gX3_canLead_X3_isMildew : GoodIn wsX3_canLead (va_wsS RX3 44 yX3_isMildew wsX3_isMildew) := goodIn_app (goodIn_of _ (by decide +kernel)) ggX3_canLead_X3_isMildew
set_option maxRecDepth 20000 in
theorem ggX3_canLead_X3_isAmong : GoodIn wsX3_canLead wsX3_isAmong := goodIn_r _ [8, 9, 1, 2, 3, 4, 10, 11, 12, 13, 14, 15, 16, 17, 18, 19, 20, 21, 22, 23, 24, 25, 26, 27] (by decide +kernel) (by decide +kernel)
set_option maxRecDepth 20000 in
theorem gX3_canLead_X3_isAmong : GoodIn wsX3_canLead (wsV RX3 116 RX3 yX3_isAmong wsX3_isAmong) := goodIn_app (goodIn_of _ (by decide +kernel)) ggX3_canLead_X3_isAmong
theorem dX3_canLead_0 : decode cX3_canLead 0 = .ok (.iload_n 3, 1) := by decide +kernel
theorem dX3_canLead_1 : decode cX3_canLead 1 = .ok (.invokestatic 44, 3) := by decide +kernel
theorem dX3_canLead_4 : decode cX3_canLead 4 = .ok (.ifCond .eq 13, 3) := by decide +kernel
theorem dX3_canLead_7 : decode cX3_canLead 7 = .ok (.aload_n 0, 1) := by decide +kernel
theorem dX3_canLead_8 : decode cX3_canLead 8 = .ok (.iload_n 1, 1) := by decide +kernel
theorem dX3_canLead_9 : decode cX3_canLead 9 = .ok (.iload_n 2, 1) := by decide +kernel
theorem dX3_canLead_10 : decode cX3_canLead 10 = .ok (.iconst (-1), 1) := by decide +kernel
theorem dX3_canLead_11 : decode cX3_canLead 11 = .ok (.invokevirtual 116, 3) := by decide +kernel
theorem dX3_canLead_14 : decode cX3_canLead 14 = .ok (.ifCond .ne 7, 3) := by decide +kernel
theorem dX3_canLead_17 : decode cX3_canLead 17 = .ok (.iconst 1, 1) := by decide +kernel
theorem dX3_canLead_18 : decode cX3_canLead 18 = .ok (.goto 4, 3) := by decide +kernel
theorem dX3_canLead_21 : decode cX3_canLead 21 = .ok (.iconst 0, 1) := by decide +kernel
theorem dX3_canLead_22 : decode cX3_canLead 22 = .ok (.ireturn, 1) := by decide +kernel
set_option maxRecDepth 20000 in
theorem ggX3_canFollow_X3_isMildew : GoodIn wsX3_canFollow wsX3_isMildew := goodIn_r _ [5] (by decide +kernel) (by decide +kernel)
set_option maxRecDepth 20000 in
theorem gX3_canFollow_X3_isMildew : GoodIn wsX3_canFollow (va_wsS RX3 44 yX3_isMildew wsX3_isMildew) := goodIn_app (goodIn_of _ (by decide +kernel)) ggX3_canFollow_X3_isMildew
set_option maxRecDepth 20000 in
theorem ggX3_canFollow_X3_provenance : GoodIn wsX3_canFollow wsX3_provenance := goodIn_r _ [8] (by decide +kernel) (by decide +kernel)
set_option maxRecDepth 20000 in
theorem gX3_canFollow_X3_provenance : GoodIn wsX3_canFollow (va_wsS RX3 48 yX3_provenance wsX3_provenance) := goodIn_app (goodIn_of _ (by decide +kernel)) ggX3_canFollow_X3_provenance
set_option maxRecDepth 20000 in
theorem ggX3_canFollow_X3_isAmong : GoodIn wsX3_canFollow wsX3_isAmong := goodIn_r _ [12, 13, 2, 3, 4, 5, 6, 7, 8, 18, 19, 20, 21, 22, 23, 24, 25, 26, 27, 28, 29, 30, 31, 32] (by decide +kernel) (by decide +kernel)
set_option maxRecDepth 20000 in
theorem gX3_canFollow_X3_isAmong : GoodIn wsX3_canFollow (wsV RX3 116 RX3 yX3_isAmong wsX3_isAmong) := goodIn_app (goodIn_of _ (by decide +kernel)) ggX3_canFollow_X3_isAmong
set_option maxRecDepth 20000 in
theorem ggX3_canFollow_X3_isTrump : GoodIn wsX3_canFollow wsX3_isTrump := goodIn_r _ [17, 1, 2, 3, 4, 5, 6, 7, 8, 18, 19, 20, 21, 22, 23, 24, 25, 26, 27, 28, 29, 30, 31, 32] (by decide +kernel) (by decide +kernel)
set_option maxRecDepth 20000 in
theorem gX3_canFollow_X3_isTrump : GoodIn wsX3_canFollow (wsV RX3 55 RX3 yX3_isTrump wsX3_isTrump) := goodIn_app (goodIn_of _ (by decide +kernel)) ggX3_canFollow_X3_isTrump
theorem dX3_canFollow_0 : decode cX3_canFollow 0 = .ok (.iload 4, 2) := by decide +kernel
theorem dX3_canFollow_2 : decode cX3_canFollow 2 = .ok (.invokestatic 44, 3) := by decide +kernel
theorem dX3_canFollow_5 : decode cX3_canFollow 5 = .ok (.ifCond .eq 5, 3) := by decide +kernel
theorem dX3_canFollow_8 : decode cX3_canFollow 8 = .ok (.iconst 1, 1) := by decide +kernel
theorem dX3_canFollow_9 : decode cX3_canFollow 9 = .ok (.ireturn, 1) := by decide +kernel
theorem dX3_canFollow_10 : decode cX3_canFollow 10 = .ok (.aload_n 0, 1) := by decide +kernel
theorem dX3_canFollow_11 : decode cX3_canFollow 11 = .ok (.iload_n 1, 1) := by decide +kernel
theorem dX3_canFollow_12 : decode cX3_canFollow 12 = .ok (.iload_n 2, 1) := by decide +kernel
theorem dX3_canFollow_13 : decode cX3_canFollow 13 = .ok (.iload 4, 2) := by decide +kernel
theorem dX3_canFollow_15 : decode cX3_canFollow 15 = .ok (.invokestatic 48, 3) := by decide +kernel
theorem dX3_canFollow_18 : decode cX3_canFollow 18 = .ok (.invokevirtual 116, 3) := by decide +kernel
theorem dX3_canFollow_21 : decode cX3_canFollow 21 = .ok (.ifCond .eq 28, 3) := by decide +kernel
theorem dX3_canFollow_24 : decode cX3_canFollow 24 = .ok (.iload_n 3, 1) := by decide +kernel
theorem dX3_canFollow_25 : decode cX3_canFollow 25 = .ok (.invokestatic 44, 3) := by decide +kernel
theorem dX3_canFollow_28 : decode cX3_canFollow 28 = .ok (.ifCond .ne 19, 3) := by decide +kernel
theorem dX3_canFollow_31 : decode cX3_canFollow 31 = .ok (.iload_n 3, 1) := by decide +kernel
theorem dX3_canFollow_32 : decode cX3_canFollow 32 = .ok (.invokestatic 48, 3) := by decide +kernel
theorem dX3_canFollow_35 : decode cX3_canFollow 35 = .ok (.iload 4, 2) := by decide +kernel
theorem dX3_canFollow_37 : decode cX3_canFollow 37 = .ok (.invokestatic 48, 3) := by decide +kernel
theorem dX3_canFollow_40 : decode cX3_canFollow 40 = .ok (.if_icmp .ne 7, 3) := by decide +kernel
theorem dX3_canFollow_43 : decode cX3_canFollow 43 = .ok (.iconst 1, 1) := by decide +kernel
theorem dX3_canFollow_44 : decode cX3_canFollow 44 = .ok (.goto 4, 3) := by decide +kernel
theorem dX3_canFollow_47 : decode cX3_canFollow 47 = .ok (.iconst 0, 1) := by decide +kernel
theorem dX3_canFollow_48 : decode cX3_canFollow 48 = .ok (.ireturn, 1) := by decide +kernel
theorem dX3_canFollow_49 : decode cX3_canFollow 49 = .ok (.aload_n 0, 1) := by decide +kernel
theorem dX3_canFollow_50 : decode cX3_canFollow 50 = .ok (.iload_n 1, 1) := by decide +kernel
theorem dX3_canFollow_51 : decode cX3_canFollow 51 = .ok (.iload_n 2, 1) := by decide +kernel
theorem dX3_canFollow_52 : decode cX3_canFollow 52 = .ok (.aload_n 0, 1) := by decide +kernel
theorem dX3_canFollow_53 : decode cX3_canFollow 53 = .ok (.getfield 20, 3) := by decide +kernel
theorem dX3_canFollow_56 : decode cX3_canFollow 56 = .ok (.invokevirtual 116, 3) := by decide +kernel
theorem dX3_canFollow_59 : decode cX3_canFollow 59 = .ok (.ifCond .eq 11, 3) := by decide +kernel
theorem dX3_canFollow_62 : decode cX3_canFollow 62 = .ok (.aload_n 0, 1) := by decide +kernel
theorem dX3_canFollow_63 : decode cX3_canFollow 63 = .ok (.iload_n 3, 1) := by decide +kernel
theorem dX3_canFollow_64 : decode cX3_canFollow 64 = .ok (.invokevirtual 55, 3) := by decide +kernel
theorem dX3_canFollow_67 : decode cX3_canFollow 67 = .ok (.ifCond .eq 7, 3) := by decide +kernel
theorem dX3_canFollow_70 : decode cX3_canFollow 70 = .ok (.iconst 1, 1) := by decide +kernel
theorem dX3_canFollow_71 : decode cX3_canFollow 71 = .ok (.goto 4, 3) := by decide +kernel
theorem dX3_canFollow_74 : decode cX3_canFollow 74 = .ok (.iconst 0, 1) := by decide +kernel
theorem dX3_canFollow_75 : decode cX3_canFollow 75 = .ok (.ireturn, 1) := by decide +kernel
theorem dX3_tableAt_0 : decode cX3_tableAt 0 = .ok (.aload_n 0, 1) := by decide +kernel
theorem dX3_tableAt_1 : decode cX3_tableAt 1 = .ok (.getfield 38, 3) := by decide +kernel
theorem dX3_tableAt_4 : decode cX3_tableAt 4 = .ok (.sipush 4096, 3) := by decide +kernel
theorem dX3_tableAt_7 : decode cX3_tableAt 7 = .ok (.iload_n 1, 1) := by decide +kernel
theorem dX3_tableAt_8 : decode cX3_tableAt 8 = .ok (.imul, 1) := by decide +kernel
theorem dX3_tableAt_9 : decode cX3_tableAt 9 = .ok (.iload_n 1, 1) := by decide +kernel
theorem dX3_tableAt_10 : decode cX3_tableAt 10 = .ok (.ifCond .ne 12, 3) := by decide +kernel
theorem dX3_tableAt_13 : decode cX3_tableAt 13 = .ok (.bipush 64, 2) := by decide +kernel
theorem dX3_tableAt_15 : decode cX3_tableAt 15 = .ok (.iload_n 2, 1) := by decide +kernel
theorem dX3_tableAt_16 : decode cX3_tableAt 16 = .ok (.imul, 1) := by decide +kernel
theorem dX3_tableAt_17 : decode cX3_tableAt 17 = .ok (.iload_n 3, 1) := by decide +kernel
theorem dX3_tableAt_18 : decode cX3_tableAt 18 = .ok (.iadd, 1) := by decide +kernel
theorem dX3_tableAt_19 : decode cX3_tableAt 19 = .ok (.goto 9, 3) := by decide +kernel
theorem dX3_tableAt_22 : decode cX3_tableAt 22 = .ok (.bipush 64, 2) := by decide +kernel
theorem dX3_tableAt_24 : decode cX3_tableAt 24 = .ok (.iload_n 3, 1) := by decide +kernel
theorem dX3_tableAt_25 : decode cX3_tableAt 25 = .ok (.imul, 1) := by decide +kernel
theorem dX3_tableAt_26 : decode cX3_tableAt 26 = .ok (.iload_n 2, 1) := by decide +kernel
theorem dX3_tableAt_27 : decode cX3_tableAt 27 = .ok (.iadd, 1) := by decide +kernel
theorem dX3_tableAt_28 : decode cX3_tableAt 28 = .ok (.iadd, 1) := by decide +kernel
theorem dX3_tableAt_29 : decode cX3_tableAt 29 = .ok (.iaload, 1) := by decide +kernel
theorem dX3_tableAt_30 : decode cX3_tableAt 30 = .ok (.ireturn, 1) := by decide +kernel
set_option maxRecDepth 20000 in
theorem ggX3_behind_X3_takes : GoodIn wsX3_behind wsX3_takes := goodIn_r _ [5, 6, 7, 4, 8, 9, 10, 11, 12, 13, 14, 15, 16, 28, 29, 30, 31, 32, 33, 34, 35, 36, 37, 38, 39, 40, 41, 42] (by decide +kernel) (by decide +kernel)
set_option maxRecDepth 20000 in
theorem gX3_behind_X3_takes : GoodIn wsX3_behind (wsV RX3 86 RX3 yX3_takes wsX3_takes) := goodIn_app (goodIn_of _ (by decide +kernel)) ggX3_behind_X3_takes
set_option maxRecDepth 20000 in
theorem ggX3_behind_X3_worthTo : GoodIn wsX3_behind wsX3_worthTo := goodIn_r _ [19, 6, 7, 4, 8, 20, 21, 22] (by decide +kernel) (by decide +kernel)
set_option maxRecDepth 20000 in
theorem gX3_behind_X3_worthTo : GoodIn wsX3_behind (va_wsS RX3 89 yX3_worthTo wsX3_worthTo) := goodIn_app (goodIn_of _ (by decide +kernel)) ggX3_behind_X3_worthTo
set_option maxRecDepth 20000 in
theorem ggX3_behind_X3_tableAt : GoodIn wsX3_behind wsX3_tableAt := goodIn_r _ [26, 27, 28, 29, 30, 31, 32, 33, 34, 35, 36, 37, 38, 39, 40, 41, 42] (by decide +kernel) (by decide +kernel)
set_option maxRecDepth 20000 in
theorem gX3_behind_X3_tableAt : GoodIn wsX3_behind (wsV RX3 120 RX3 yX3_tableAt wsX3_tableAt) := goodIn_app (goodIn_of _ (by decide +kernel)) ggX3_behind_X3_tableAt
theorem dX3_behind_0 : decode cX3_behind 0 = .ok (.aload_n 0, 1) := by decide +kernel
theorem dX3_behind_1 : decode cX3_behind 1 = .ok (.iload_n 3, 1) := by decide +kernel
theorem dX3_behind_2 : decode cX3_behind 2 = .ok (.iload_n 2, 1) := by decide +kernel
theorem dX3_behind_3 : decode cX3_behind 3 = .ok (.invokevirtual 86, 3) := by decide +kernel
theorem dX3_behind_6 : decode cX3_behind 6 = .ok (.istore 7, 2) := by decide +kernel
theorem dX3_behind_8 : decode cX3_behind 8 = .ok (.iload 7, 2) := by decide +kernel
theorem dX3_behind_10 : decode cX3_behind 10 = .ok (.ifCond .eq 9, 3) := by decide +kernel
theorem dX3_behind_13 : decode cX3_behind 13 = .ok (.iconst 1, 1) := by decide +kernel
theorem dX3_behind_14 : decode cX3_behind 14 = .ok (.iload_n 1, 1) := by decide +kernel
theorem dX3_behind_15 : decode cX3_behind 15 = .ok (.isub, 1) := by decide +kernel
theorem dX3_behind_16 : decode cX3_behind 16 = .ok (.goto 4, 3) := by decide +kernel
theorem dX3_behind_19 : decode cX3_behind 19 = .ok (.iload_n 1, 1) := by decide +kernel
theorem dX3_behind_20 : decode cX3_behind 20 = .ok (.istore 8, 2) := by decide +kernel
theorem dX3_behind_22 : decode cX3_behind 22 = .ok (.iload 6, 2) := by decide +kernel
theorem dX3_behind_24 : decode cX3_behind 24 = .ok (.iload 8, 2) := by decide +kernel
theorem dX3_behind_26 : decode cX3_behind 26 = .ok (.ishr, 1) := by decide +kernel
theorem dX3_behind_27 : decode cX3_behind 27 = .ok (.iconst 1, 1) := by decide +kernel
theorem dX3_behind_28 : decode cX3_behind 28 = .ok (.iand, 1) := by decide +kernel
theorem dX3_behind_29 : decode cX3_behind 29 = .ok (.iconst 1, 1) := by decide +kernel
theorem dX3_behind_30 : decode cX3_behind 30 = .ok (.if_icmp .ne 7, 3) := by decide +kernel
theorem dX3_behind_33 : decode cX3_behind 33 = .ok (.iconst 1, 1) := by decide +kernel
theorem dX3_behind_34 : decode cX3_behind 34 = .ok (.goto 4, 3) := by decide +kernel
theorem dX3_behind_37 : decode cX3_behind 37 = .ok (.iconst 0, 1) := by decide +kernel
theorem dX3_behind_38 : decode cX3_behind 38 = .ok (.istore 9, 2) := by decide +kernel
theorem dX3_behind_40 : decode cX3_behind 40 = .ok (.iload_n 2, 1) := by decide +kernel
theorem dX3_behind_41 : decode cX3_behind 41 = .ok (.iload 9, 2) := by decide +kernel
theorem dX3_behind_43 : decode cX3_behind 43 = .ok (.invokestatic 89, 3) := by decide +kernel
theorem dX3_behind_46 : decode cX3_behind 46 = .ok (.iload_n 3, 1) := by decide +kernel
theorem dX3_behind_47 : decode cX3_behind 47 = .ok (.iload 9, 2) := by decide +kernel
theorem dX3_behind_49 : decode cX3_behind 49 = .ok (.invokestatic 89, 3) := by decide +kernel
theorem dX3_behind_52 : decode cX3_behind 52 = .ok (.iadd, 1) := by decide +kernel
theorem dX3_behind_53 : decode cX3_behind 53 = .ok (.istore 10, 2) := by decide +kernel
theorem dX3_behind_55 : decode cX3_behind 55 = .ok (.iload 7, 2) := by decide +kernel
theorem dX3_behind_57 : decode cX3_behind 57 = .ok (.ifCond .eq 21, 3) := by decide +kernel
theorem dX3_behind_60 : decode cX3_behind 60 = .ok (.iload 10, 2) := by decide +kernel
theorem dX3_behind_62 : decode cX3_behind 62 = .ok (.ineg, 1) := by decide +kernel
theorem dX3_behind_63 : decode cX3_behind 63 = .ok (.aload_n 0, 1) := by decide +kernel
theorem dX3_behind_64 : decode cX3_behind 64 = .ok (.iconst 1, 1) := by decide +kernel
theorem dX3_behind_65 : decode cX3_behind 65 = .ok (.iload_n 1, 1) := by decide +kernel
theorem dX3_behind_66 : decode cX3_behind 66 = .ok (.isub, 1) := by decide +kernel
theorem dX3_behind_67 : decode cX3_behind 67 = .ok (.iload 5, 2) := by decide +kernel
theorem dX3_behind_69 : decode cX3_behind 69 = .ok (.iload 4, 2) := by decide +kernel
theorem dX3_behind_71 : decode cX3_behind 71 = .ok (.invokevirtual 120, 3) := by decide +kernel
theorem dX3_behind_74 : decode cX3_behind 74 = .ok (.isub, 1) := by decide +kernel
theorem dX3_behind_75 : decode cX3_behind 75 = .ok (.goto 15, 3) := by decide +kernel
theorem dX3_behind_78 : decode cX3_behind 78 = .ok (.iload 10, 2) := by decide +kernel
theorem dX3_behind_80 : decode cX3_behind 80 = .ok (.aload_n 0, 1) := by decide +kernel
theorem dX3_behind_81 : decode cX3_behind 81 = .ok (.iload_n 1, 1) := by decide +kernel
theorem dX3_behind_82 : decode cX3_behind 82 = .ok (.iload 4, 2) := by decide +kernel
theorem dX3_behind_84 : decode cX3_behind 84 = .ok (.iload 5, 2) := by decide +kernel
theorem dX3_behind_86 : decode cX3_behind 86 = .ok (.invokevirtual 120, 3) := by decide +kernel
theorem dX3_behind_89 : decode cX3_behind 89 = .ok (.iadd, 1) := by decide +kernel
theorem dX3_behind_90 : decode cX3_behind 90 = .ok (.ireturn, 1) := by decide +kernel
set_option maxRecDepth 20000 in
theorem ggX3_leastBy_X3_canFollow : GoodIn wsX3_leastBy wsX3_canFollow := goodIn_r _ [6, 7, 8, 9, 5, 10, 11, 12, 13, 14, 15, 16, 17, 1, 18, 19, 20, 21, 41, 42, 43, 44, 45, 46, 47, 48, 49, 50, 51, 52, 53, 54, 55] (by decide +kernel) (by decide +kernel)
set_option maxRecDepth 20000 in
theorem gX3_leastBy_X3_canFollow : GoodIn wsX3_leastBy (wsV RX3 124 RX3 yX3_canFollow wsX3_canFollow) := goodIn_app (goodIn_of _ (by decide +kernel)) ggX3_leastBy_X3_canFollow
set_option maxRecDepth 20000 in
theorem ggX3_leastBy_X3_behind : GoodIn wsX3_leastBy wsX3_behind := goodIn_r _ [25, 26, 27, 28, 5, 29, 8, 9, 10, 11, 12, 13, 18, 19, 20, 21, 7, 30, 31, 32, 33, 34, 35, 36, 37, 38, 39, 40, 41, 42, 43, 44, 45, 46, 47, 48, 49, 50, 51, 52, 53, 54, 55] (by decide +kernel) (by decide +kernel)
set_option maxRecDepth 20000 in
theorem gX3_leastBy_X3_behind : GoodIn wsX3_leastBy (wsV RX3 128 RX3 yX3_behind wsX3_behind) := goodIn_app (goodIn_of _ (by decide +kernel)) ggX3_leastBy_X3_behind
theorem dX3_leastBy_0 : decode cX3_leastBy 0 = .ok (.aload_n 0, 1) := by decide +kernel
theorem dX3_leastBy_1 : decode cX3_leastBy 1 = .ok (.getfield 35, 3) := by decide +kernel
theorem dX3_leastBy_4 : decode cX3_leastBy 4 = .ok (.bipush 6, 2) := by decide +kernel
theorem dX3_leastBy_6 : decode cX3_leastBy 6 = .ok (.iload_n 1, 1) := by decide +kernel
theorem dX3_leastBy_7 : decode cX3_leastBy 7 = .ok (.imul, 1) := by decide +kernel
theorem dX3_leastBy_8 : decode cX3_leastBy 8 = .ok (.iload 4, 2) := by decide +kernel
theorem dX3_leastBy_10 : decode cX3_leastBy 10 = .ok (.iadd, 1) := by decide +kernel
theorem dX3_leastBy_11 : decode cX3_leastBy 11 = .ok (.iaload, 1) := by decide +kernel
theorem dX3_leastBy_12 : decode cX3_leastBy 12 = .ok (.istore 6, 2) := by decide +kernel
theorem dX3_leastBy_14 : decode cX3_leastBy 14 = .ok (.sipush 1000, 3) := by decide +kernel
theorem dX3_leastBy_17 : decode cX3_leastBy 17 = .ok (.istore 7, 2) := by decide +kernel
theorem dX3_leastBy_19 : decode cX3_leastBy 19 = .ok (.iconst 0, 1) := by decide +kernel
theorem dX3_leastBy_20 : decode cX3_leastBy 20 = .ok (.istore 8, 2) := by decide +kernel
theorem dX3_leastBy_22 : decode cX3_leastBy 22 = .ok (.iload 8, 2) := by decide +kernel
theorem dX3_leastBy_24 : decode cX3_leastBy 24 = .ok (.bipush 6, 2) := by decide +kernel
theorem dX3_leastBy_26 : decode cX3_leastBy 26 = .ok (.if_icmp .ge 95, 3) := by decide +kernel
theorem dX3_leastBy_29 : decode cX3_leastBy 29 = .ok (.aload_n 0, 1) := by decide +kernel
theorem dX3_leastBy_30 : decode cX3_leastBy 30 = .ok (.getfield 35, 3) := by decide +kernel
theorem dX3_leastBy_33 : decode cX3_leastBy 33 = .ok (.bipush 6, 2) := by decide +kernel
theorem dX3_leastBy_35 : decode cX3_leastBy 35 = .ok (.iconst 1, 1) := by decide +kernel
theorem dX3_leastBy_36 : decode cX3_leastBy 36 = .ok (.iload_n 1, 1) := by decide +kernel
theorem dX3_leastBy_37 : decode cX3_leastBy 37 = .ok (.isub, 1) := by decide +kernel
theorem dX3_leastBy_38 : decode cX3_leastBy 38 = .ok (.imul, 1) := by decide +kernel
theorem dX3_leastBy_39 : decode cX3_leastBy 39 = .ok (.iload 8, 2) := by decide +kernel
theorem dX3_leastBy_41 : decode cX3_leastBy 41 = .ok (.iadd, 1) := by decide +kernel
theorem dX3_leastBy_42 : decode cX3_leastBy 42 = .ok (.iaload, 1) := by decide +kernel
theorem dX3_leastBy_43 : decode cX3_leastBy 43 = .ok (.istore 9, 2) := by decide +kernel
theorem dX3_leastBy_45 : decode cX3_leastBy 45 = .ok (.iload_n 3, 1) := by decide +kernel
theorem dX3_leastBy_46 : decode cX3_leastBy 46 = .ok (.iload 8, 2) := by decide +kernel
theorem dX3_leastBy_48 : decode cX3_leastBy 48 = .ok (.ishr, 1) := by decide +kernel
theorem dX3_leastBy_49 : decode cX3_leastBy 49 = .ok (.iconst 1, 1) := by decide +kernel
theorem dX3_leastBy_50 : decode cX3_leastBy 50 = .ok (.iand, 1) := by decide +kernel
theorem dX3_leastBy_51 : decode cX3_leastBy 51 = .ok (.iconst 1, 1) := by decide +kernel
theorem dX3_leastBy_52 : decode cX3_leastBy 52 = .ok (.if_icmp .ne 63, 3) := by decide +kernel
theorem dX3_leastBy_55 : decode cX3_leastBy 55 = .ok (.aload_n 0, 1) := by decide +kernel
theorem dX3_leastBy_56 : decode cX3_leastBy 56 = .ok (.iconst 1, 1) := by decide +kernel
theorem dX3_leastBy_57 : decode cX3_leastBy 57 = .ok (.iload_n 1, 1) := by decide +kernel
theorem dX3_leastBy_58 : decode cX3_leastBy 58 = .ok (.isub, 1) := by decide +kernel
theorem dX3_leastBy_59 : decode cX3_leastBy 59 = .ok (.iload_n 3, 1) := by decide +kernel
theorem dX3_leastBy_60 : decode cX3_leastBy 60 = .ok (.iload 9, 2) := by decide +kernel
theorem dX3_leastBy_62 : decode cX3_leastBy 62 = .ok (.iload 6, 2) := by decide +kernel
theorem dX3_leastBy_64 : decode cX3_leastBy 64 = .ok (.invokevirtual 124, 3) := by decide +kernel
theorem dX3_leastBy_67 : decode cX3_leastBy 67 = .ok (.ifCond .eq 48, 3) := by decide +kernel
theorem dX3_leastBy_70 : decode cX3_leastBy 70 = .ok (.aload_n 0, 1) := by decide +kernel
theorem dX3_leastBy_71 : decode cX3_leastBy 71 = .ok (.iload_n 1, 1) := by decide +kernel
theorem dX3_leastBy_72 : decode cX3_leastBy 72 = .ok (.iload 6, 2) := by decide +kernel
theorem dX3_leastBy_74 : decode cX3_leastBy 74 = .ok (.iload 9, 2) := by decide +kernel
theorem dX3_leastBy_76 : decode cX3_leastBy 76 = .ok (.iload_n 2, 1) := by decide +kernel
theorem dX3_leastBy_77 : decode cX3_leastBy 77 = .ok (.iconst 1, 1) := by decide +kernel
theorem dX3_leastBy_78 : decode cX3_leastBy 78 = .ok (.iload 4, 2) := by decide +kernel
theorem dX3_leastBy_80 : decode cX3_leastBy 80 = .ok (.ishl, 1) := by decide +kernel
theorem dX3_leastBy_81 : decode cX3_leastBy 81 = .ok (.iconst (-1), 1) := by decide +kernel
theorem dX3_leastBy_82 : decode cX3_leastBy 82 = .ok (.ixor, 1) := by decide +kernel
theorem dX3_leastBy_83 : decode cX3_leastBy 83 = .ok (.iand, 1) := by decide +kernel
theorem dX3_leastBy_84 : decode cX3_leastBy 84 = .ok (.iload_n 3, 1) := by decide +kernel
theorem dX3_leastBy_85 : decode cX3_leastBy 85 = .ok (.iconst 1, 1) := by decide +kernel
theorem dX3_leastBy_86 : decode cX3_leastBy 86 = .ok (.iload 8, 2) := by decide +kernel
theorem dX3_leastBy_88 : decode cX3_leastBy 88 = .ok (.ishl, 1) := by decide +kernel
theorem dX3_leastBy_89 : decode cX3_leastBy 89 = .ok (.iconst (-1), 1) := by decide +kernel
theorem dX3_leastBy_90 : decode cX3_leastBy 90 = .ok (.ixor, 1) := by decide +kernel
theorem dX3_leastBy_91 : decode cX3_leastBy 91 = .ok (.iand, 1) := by decide +kernel
theorem dX3_leastBy_92 : decode cX3_leastBy 92 = .ok (.iload 5, 2) := by decide +kernel
theorem dX3_leastBy_94 : decode cX3_leastBy 94 = .ok (.invokevirtual 128, 3) := by decide +kernel
theorem dX3_leastBy_97 : decode cX3_leastBy 97 = .ok (.istore 10, 2) := by decide +kernel
theorem dX3_leastBy_99 : decode cX3_leastBy 99 = .ok (.iload 10, 2) := by decide +kernel
theorem dX3_leastBy_101 : decode cX3_leastBy 101 = .ok (.iload 7, 2) := by decide +kernel
theorem dX3_leastBy_103 : decode cX3_leastBy 103 = .ok (.if_icmp .ge 8, 3) := by decide +kernel
theorem dX3_leastBy_106 : decode cX3_leastBy 106 = .ok (.iload 10, 2) := by decide +kernel
theorem dX3_leastBy_108 : decode cX3_leastBy 108 = .ok (.goto 5, 3) := by decide +kernel
theorem dX3_leastBy_111 : decode cX3_leastBy 111 = .ok (.iload 7, 2) := by decide +kernel
theorem dX3_leastBy_113 : decode cX3_leastBy 113 = .ok (.istore 7, 2) := by decide +kernel
theorem dX3_leastBy_115 : decode cX3_leastBy 115 = .ok (.iinc 8 1, 3) := by decide +kernel
theorem dX3_leastBy_118 : decode cX3_leastBy 118 = .ok (.goto (-96), 3) := by decide +kernel
theorem dX3_leastBy_121 : decode cX3_leastBy 121 = .ok (.iload 7, 2) := by decide +kernel
theorem dX3_leastBy_123 : decode cX3_leastBy 123 = .ok (.ireturn, 1) := by decide +kernel
set_option maxRecDepth 20000 in
theorem ggX3_mostOf_X3_canLead : GoodIn wsX3_mostOf wsX3_canLead := goodIn_r _ [6, 7, 8, 5, 9, 10, 11, 12, 13, 1, 14, 15, 16, 49, 50, 51, 52, 53, 54, 55, 56, 57, 58, 59, 60, 61, 62, 63] (by decide +kernel) (by decide +kernel)
set_option maxRecDepth 20000 in
theorem gX3_mostOf_X3_canLead : GoodIn wsX3_mostOf (wsV RX3 132 RX3 yX3_canLead wsX3_canLead) := goodIn_app (goodIn_of _ (by decide +kernel)) ggX3_mostOf_X3_canLead
set_option maxRecDepth 20000 in
theorem ggX3_mostOf_X3_leastBy : GoodIn wsX3_mostOf wsX3_leastBy := goodIn_r _ [20, 1, 21, 22, 23, 5, 24, 25, 7, 8, 9, 14, 15, 16, 10, 11, 12, 13, 26, 27, 28, 29, 30, 31, 32, 33, 34, 35, 36, 37, 38, 39, 40, 41, 42, 43, 44, 45, 46, 47, 48, 49, 50, 51, 52, 53, 54, 55, 56, 57, 58, 59, 60, 61, 62, 63] (by decide +kernel) (by decide +kernel)
set_option maxRecDepth 20000 in
theorem gX3_mostOf_X3_leastBy : GoodIn wsX3_mostOf (wsV RX3 135 RX3 yX3_leastBy wsX3_leastBy) := goodIn_app (goodIn_of _ (by decide +kernel)) ggX3_mostOf_X3_leastBy
theorem dX3_mostOf_0 : decode cX3_mostOf 0 = .ok (.sipush (-1000), 3) := by decide +kernel
theorem dX3_mostOf_3 : decode cX3_mostOf 3 = .ok (.istore 5, 2) := by decide +kernel
theorem dX3_mostOf_5 : decode cX3_mostOf 5 = .ok (.iconst 0, 1) := by decide +kernel
theorem dX3_mostOf_6 : decode cX3_mostOf 6 = .ok (.istore 6, 2) := by decide +kernel
theorem dX3_mostOf_8 : decode cX3_mostOf 8 = .ok (.iload 6, 2) := by decide +kernel
theorem dX3_mostOf_10 : decode cX3_mostOf 10 = .ok (.bipush 6, 2) := by decide +kernel
theorem dX3_mostOf_12 : decode cX3_mostOf 12 = .ok (.if_icmp .ge 69, 3) := by decide +kernel
theorem dX3_mostOf_15 : decode cX3_mostOf 15 = .ok (.iload_n 2, 1) := by decide +kernel
theorem dX3_mostOf_16 : decode cX3_mostOf 16 = .ok (.iload 6, 2) := by decide +kernel
theorem dX3_mostOf_18 : decode cX3_mostOf 18 = .ok (.ishr, 1) := by decide +kernel
theorem dX3_mostOf_19 : decode cX3_mostOf 19 = .ok (.iconst 1, 1) := by decide +kernel
theorem dX3_mostOf_20 : decode cX3_mostOf 20 = .ok (.iand, 1) := by decide +kernel
theorem dX3_mostOf_21 : decode cX3_mostOf 21 = .ok (.iconst 1, 1) := by decide +kernel
theorem dX3_mostOf_22 : decode cX3_mostOf 22 = .ok (.if_icmp .ne 53, 3) := by decide +kernel
theorem dX3_mostOf_25 : decode cX3_mostOf 25 = .ok (.aload_n 0, 1) := by decide +kernel
theorem dX3_mostOf_26 : decode cX3_mostOf 26 = .ok (.iload_n 1, 1) := by decide +kernel
theorem dX3_mostOf_27 : decode cX3_mostOf 27 = .ok (.iload_n 2, 1) := by decide +kernel
theorem dX3_mostOf_28 : decode cX3_mostOf 28 = .ok (.aload_n 0, 1) := by decide +kernel
theorem dX3_mostOf_29 : decode cX3_mostOf 29 = .ok (.getfield 35, 3) := by decide +kernel
theorem dX3_mostOf_32 : decode cX3_mostOf 32 = .ok (.bipush 6, 2) := by decide +kernel
theorem dX3_mostOf_34 : decode cX3_mostOf 34 = .ok (.iload_n 1, 1) := by decide +kernel
theorem dX3_mostOf_35 : decode cX3_mostOf 35 = .ok (.imul, 1) := by decide +kernel
theorem dX3_mostOf_36 : decode cX3_mostOf 36 = .ok (.iload 6, 2) := by decide +kernel
theorem dX3_mostOf_38 : decode cX3_mostOf 38 = .ok (.iadd, 1) := by decide +kernel
theorem dX3_mostOf_39 : decode cX3_mostOf 39 = .ok (.iaload, 1) := by decide +kernel
theorem dX3_mostOf_40 : decode cX3_mostOf 40 = .ok (.invokevirtual 132, 3) := by decide +kernel
theorem dX3_mostOf_43 : decode cX3_mostOf 43 = .ok (.ifCond .eq 32, 3) := by decide +kernel
theorem dX3_mostOf_46 : decode cX3_mostOf 46 = .ok (.aload_n 0, 1) := by decide +kernel
theorem dX3_mostOf_47 : decode cX3_mostOf 47 = .ok (.iload_n 1, 1) := by decide +kernel
theorem dX3_mostOf_48 : decode cX3_mostOf 48 = .ok (.iload_n 2, 1) := by decide +kernel
theorem dX3_mostOf_49 : decode cX3_mostOf 49 = .ok (.iload_n 3, 1) := by decide +kernel
theorem dX3_mostOf_50 : decode cX3_mostOf 50 = .ok (.iload 6, 2) := by decide +kernel
theorem dX3_mostOf_52 : decode cX3_mostOf 52 = .ok (.iload 4, 2) := by decide +kernel
theorem dX3_mostOf_54 : decode cX3_mostOf 54 = .ok (.invokevirtual 135, 3) := by decide +kernel
theorem dX3_mostOf_57 : decode cX3_mostOf 57 = .ok (.istore 7, 2) := by decide +kernel
theorem dX3_mostOf_59 : decode cX3_mostOf 59 = .ok (.iload 7, 2) := by decide +kernel
theorem dX3_mostOf_61 : decode cX3_mostOf 61 = .ok (.iload 5, 2) := by decide +kernel
theorem dX3_mostOf_63 : decode cX3_mostOf 63 = .ok (.if_icmp .le 8, 3) := by decide +kernel
theorem dX3_mostOf_66 : decode cX3_mostOf 66 = .ok (.iload 7, 2) := by decide +kernel
theorem dX3_mostOf_68 : decode cX3_mostOf 68 = .ok (.goto 5, 3) := by decide +kernel
theorem dX3_mostOf_71 : decode cX3_mostOf 71 = .ok (.iload 5, 2) := by decide +kernel
theorem dX3_mostOf_73 : decode cX3_mostOf 73 = .ok (.istore 5, 2) := by decide +kernel
theorem dX3_mostOf_75 : decode cX3_mostOf 75 = .ok (.iinc 6 1, 3) := by decide +kernel
theorem dX3_mostOf_78 : decode cX3_mostOf 78 = .ok (.goto (-70), 3) := by decide +kernel
theorem dX3_mostOf_81 : decode cX3_mostOf 81 = .ok (.iload_n 2, 1) := by decide +kernel
theorem dX3_mostOf_82 : decode cX3_mostOf 82 = .ok (.ifCond .ne 7, 3) := by decide +kernel
theorem dX3_mostOf_85 : decode cX3_mostOf 85 = .ok (.iconst 0, 1) := by decide +kernel
theorem dX3_mostOf_86 : decode cX3_mostOf 86 = .ok (.goto 5, 3) := by decide +kernel
theorem dX3_mostOf_89 : decode cX3_mostOf 89 = .ok (.iload 5, 2) := by decide +kernel
theorem dX3_mostOf_91 : decode cX3_mostOf 91 = .ok (.ireturn, 1) := by decide +kernel
set_option maxRecDepth 20000 in
theorem ggX3_laysTable_X3_laysHands : GoodIn wsX3_laysTable wsX3_laysHands := goodIn_r _ [6, 7, 8, 66, 67, 68, 69, 70, 71, 72, 73, 74, 75, 76, 77, 78, 79, 80] (by decide +kernel) (by decide +kernel)
set_option maxRecDepth 20000 in
theorem gX3_laysTable_X3_laysHands : GoodIn wsX3_laysTable (wsV RX3 139 RX3 yX3_laysHands wsX3_laysHands) := goodIn_app (goodIn_of _ (by decide +kernel)) ggX3_laysTable_X3_laysHands
set_option maxRecDepth 20000 in
theorem ggX3_laysTable_X3_howMany : GoodIn wsX3_laysTable wsX3_howMany := goodIn_r _ [12, 13, 7, 66, 67, 68, 69, 70, 71, 72, 73, 74, 75, 76, 77, 78, 79, 80] (by decide +kernel) (by decide +kernel)
set_option maxRecDepth 20000 in
theorem gX3_laysTable_X3_howMany : GoodIn wsX3_laysTable (wsV RX3 97 RX3 yX3_howMany wsX3_howMany) := goodIn_app (goodIn_of _ (by decide +kernel)) ggX3_laysTable_X3_howMany
set_option maxRecDepth 20000 in
theorem ggX3_laysTable_X3_many : GoodIn wsX3_laysTable wsX3_many := goodIn_r _ [16] (by decide +kernel) (by decide +kernel)
set_option maxRecDepth 20000 in
theorem gX3_laysTable_X3_many : GoodIn wsX3_laysTable (va_wsS RX3 142 yX3_many wsX3_many) := goodIn_app (goodIn_of _ (by decide +kernel)) ggX3_laysTable_X3_many
set_option maxRecDepth 20000 in
theorem ggX3_laysTable_X3_mostOf : GoodIn wsX3_laysTable wsX3_mostOf := goodIn_r _ [20, 8, 21, 22, 23, 5, 24, 25, 26, 27, 28, 29, 30, 31, 32, 33, 34, 35, 36, 37, 38, 39, 40, 41, 42, 43, 44, 45, 46, 47, 48, 49, 50, 51, 52, 53, 54, 55, 56, 57, 58, 59, 60, 61, 62, 63, 64, 65, 1, 66, 67, 68, 69, 70, 71, 72, 73, 74, 75, 76, 77, 78, 79, 80] (by decide +kernel) (by decide +kernel)
set_option maxRecDepth 20000 in
theorem gX3_laysTable_X3_mostOf : GoodIn wsX3_laysTable (wsV RX3 145 RX3 yX3_mostOf wsX3_mostOf) := goodIn_app (goodIn_of _ (by decide +kernel)) ggX3_laysTable_X3_mostOf
theorem dX3_laysTable_0 : decode cX3_laysTable 0 = .ok (.aload_n 0, 1) := by decide +kernel
theorem dX3_laysTable_1 : decode cX3_laysTable 1 = .ok (.invokevirtual 139, 3) := by decide +kernel
theorem dX3_laysTable_4 : decode cX3_laysTable 4 = .ok (.iconst 1, 1) := by decide +kernel
theorem dX3_laysTable_5 : decode cX3_laysTable 5 = .ok (.aload_n 0, 1) := by decide +kernel
theorem dX3_laysTable_6 : decode cX3_laysTable 6 = .ok (.iconst 0, 1) := by decide +kernel
theorem dX3_laysTable_7 : decode cX3_laysTable 7 = .ok (.invokevirtual 97, 3) := by decide +kernel
theorem dX3_laysTable_10 : decode cX3_laysTable 10 = .ok (.ishl, 1) := by decide +kernel
theorem dX3_laysTable_11 : decode cX3_laysTable 11 = .ok (.iconst 1, 1) := by decide +kernel
theorem dX3_laysTable_12 : decode cX3_laysTable 12 = .ok (.isub, 1) := by decide +kernel
theorem dX3_laysTable_13 : decode cX3_laysTable 13 = .ok (.istore_n 1, 1) := by decide +kernel
theorem dX3_laysTable_14 : decode cX3_laysTable 14 = .ok (.iconst 1, 1) := by decide +kernel
theorem dX3_laysTable_15 : decode cX3_laysTable 15 = .ok (.aload_n 0, 1) := by decide +kernel
theorem dX3_laysTable_16 : decode cX3_laysTable 16 = .ok (.iconst 1, 1) := by decide +kernel
theorem dX3_laysTable_17 : decode cX3_laysTable 17 = .ok (.invokevirtual 97, 3) := by decide +kernel
theorem dX3_laysTable_20 : decode cX3_laysTable 20 = .ok (.ishl, 1) := by decide +kernel
theorem dX3_laysTable_21 : decode cX3_laysTable 21 = .ok (.iconst 1, 1) := by decide +kernel
theorem dX3_laysTable_22 : decode cX3_laysTable 22 = .ok (.isub, 1) := by decide +kernel
theorem dX3_laysTable_23 : decode cX3_laysTable 23 = .ok (.istore_n 2, 1) := by decide +kernel
theorem dX3_laysTable_24 : decode cX3_laysTable 24 = .ok (.iconst 0, 1) := by decide +kernel
theorem dX3_laysTable_25 : decode cX3_laysTable 25 = .ok (.istore_n 3, 1) := by decide +kernel
theorem dX3_laysTable_26 : decode cX3_laysTable 26 = .ok (.iload_n 3, 1) := by decide +kernel
theorem dX3_laysTable_27 : decode cX3_laysTable 27 = .ok (.iload_n 1, 1) := by decide +kernel
theorem dX3_laysTable_28 : decode cX3_laysTable 28 = .ok (.if_icmp .gt 82, 3) := by decide +kernel
theorem dX3_laysTable_31 : decode cX3_laysTable 31 = .ok (.iconst 0, 1) := by decide +kernel
theorem dX3_laysTable_32 : decode cX3_laysTable 32 = .ok (.istore 4, 2) := by decide +kernel
theorem dX3_laysTable_34 : decode cX3_laysTable 34 = .ok (.iload 4, 2) := by decide +kernel
theorem dX3_laysTable_36 : decode cX3_laysTable 36 = .ok (.iload_n 2, 1) := by decide +kernel
theorem dX3_laysTable_37 : decode cX3_laysTable 37 = .ok (.if_icmp .gt 67, 3) := by decide +kernel
theorem dX3_laysTable_40 : decode cX3_laysTable 40 = .ok (.iload_n 3, 1) := by decide +kernel
theorem dX3_laysTable_41 : decode cX3_laysTable 41 = .ok (.invokestatic 142, 3) := by decide +kernel
theorem dX3_laysTable_44 : decode cX3_laysTable 44 = .ok (.iload 4, 2) := by decide +kernel
theorem dX3_laysTable_46 : decode cX3_laysTable 46 = .ok (.invokestatic 142, 3) := by decide +kernel
theorem dX3_laysTable_49 : decode cX3_laysTable 49 = .ok (.if_icmp .ne 49, 3) := by decide +kernel
theorem dX3_laysTable_52 : decode cX3_laysTable 52 = .ok (.aload_n 0, 1) := by decide +kernel
theorem dX3_laysTable_53 : decode cX3_laysTable 53 = .ok (.getfield 38, 3) := by decide +kernel
theorem dX3_laysTable_56 : decode cX3_laysTable 56 = .ok (.bipush 64, 2) := by decide +kernel
theorem dX3_laysTable_58 : decode cX3_laysTable 58 = .ok (.iload_n 3, 1) := by decide +kernel
theorem dX3_laysTable_59 : decode cX3_laysTable 59 = .ok (.imul, 1) := by decide +kernel
theorem dX3_laysTable_60 : decode cX3_laysTable 60 = .ok (.iload 4, 2) := by decide +kernel
theorem dX3_laysTable_62 : decode cX3_laysTable 62 = .ok (.iadd, 1) := by decide +kernel
theorem dX3_laysTable_63 : decode cX3_laysTable 63 = .ok (.aload_n 0, 1) := by decide +kernel
theorem dX3_laysTable_64 : decode cX3_laysTable 64 = .ok (.iconst 0, 1) := by decide +kernel
theorem dX3_laysTable_65 : decode cX3_laysTable 65 = .ok (.iload_n 3, 1) := by decide +kernel
theorem dX3_laysTable_66 : decode cX3_laysTable 66 = .ok (.iload 4, 2) := by decide +kernel
theorem dX3_laysTable_68 : decode cX3_laysTable 68 = .ok (.iconst 0, 1) := by decide +kernel
theorem dX3_laysTable_69 : decode cX3_laysTable 69 = .ok (.invokevirtual 145, 3) := by decide +kernel
theorem dX3_laysTable_72 : decode cX3_laysTable 72 = .ok (.iastore, 1) := by decide +kernel
theorem dX3_laysTable_73 : decode cX3_laysTable 73 = .ok (.aload_n 0, 1) := by decide +kernel
theorem dX3_laysTable_74 : decode cX3_laysTable 74 = .ok (.getfield 38, 3) := by decide +kernel
theorem dX3_laysTable_77 : decode cX3_laysTable 77 = .ok (.sipush 4096, 3) := by decide +kernel
theorem dX3_laysTable_80 : decode cX3_laysTable 80 = .ok (.bipush 64, 2) := by decide +kernel
theorem dX3_laysTable_82 : decode cX3_laysTable 82 = .ok (.iload_n 3, 1) := by decide +kernel
theorem dX3_laysTable_83 : decode cX3_laysTable 83 = .ok (.imul, 1) := by decide +kernel
theorem dX3_laysTable_84 : decode cX3_laysTable 84 = .ok (.iadd, 1) := by decide +kernel
theorem dX3_laysTable_85 : decode cX3_laysTable 85 = .ok (.iload 4, 2) := by decide +kernel
theorem dX3_laysTable_87 : decode cX3_laysTable 87 = .ok (.iadd, 1) := by decide +kernel
theorem dX3_laysTable_88 : decode cX3_laysTable 88 = .ok (.aload_n 0, 1) := by decide +kernel
theorem dX3_laysTable_89 : decode cX3_laysTable 89 = .ok (.iconst 1, 1) := by decide +kernel
theorem dX3_laysTable_90 : decode cX3_laysTable 90 = .ok (.iload 4, 2) := by decide +kernel
theorem dX3_laysTable_92 : decode cX3_laysTable 92 = .ok (.iload_n 3, 1) := by decide +kernel
theorem dX3_laysTable_93 : decode cX3_laysTable 93 = .ok (.iconst 0, 1) := by decide +kernel
theorem dX3_laysTable_94 : decode cX3_laysTable 94 = .ok (.invokevirtual 145, 3) := by decide +kernel
theorem dX3_laysTable_97 : decode cX3_laysTable 97 = .ok (.iastore, 1) := by decide +kernel
theorem dX3_laysTable_98 : decode cX3_laysTable 98 = .ok (.iinc 4 1, 3) := by decide +kernel
theorem dX3_laysTable_101 : decode cX3_laysTable 101 = .ok (.goto (-67), 3) := by decide +kernel
theorem dX3_laysTable_104 : decode cX3_laysTable 104 = .ok (.iinc 3 1, 3) := by decide +kernel
theorem dX3_laysTable_107 : decode cX3_laysTable 107 = .ok (.goto (-81), 3) := by decide +kernel
theorem dX3_laysTable_110 : decode cX3_laysTable 110 = .ok (.return_, 1) := by decide +kernel
theorem dX3_wornNow_0 : decode cX3_wornNow 0 = .ok (.aload_n 0, 1) := by decide +kernel
theorem dX3_wornNow_1 : decode cX3_wornNow 1 = .ok (.getfield 29, 3) := by decide +kernel
theorem dX3_wornNow_4 : decode cX3_wornNow 4 = .ok (.iconst 0, 1) := by decide +kernel
theorem dX3_wornNow_5 : decode cX3_wornNow 5 = .ok (.iaload, 1) := by decide +kernel
theorem dX3_wornNow_6 : decode cX3_wornNow 6 = .ok (.iconst 1, 1) := by decide +kernel
theorem dX3_wornNow_7 : decode cX3_wornNow 7 = .ok (.if_icmp .ne 7, 3) := by decide +kernel
theorem dX3_wornNow_10 : decode cX3_wornNow 10 = .ok (.iconst 1, 1) := by decide +kernel
theorem dX3_wornNow_11 : decode cX3_wornNow 11 = .ok (.goto 4, 3) := by decide +kernel
theorem dX3_wornNow_14 : decode cX3_wornNow 14 = .ok (.iconst 0, 1) := by decide +kernel
theorem dX3_wornNow_15 : decode cX3_wornNow 15 = .ok (.aload_n 0, 1) := by decide +kernel
theorem dX3_wornNow_16 : decode cX3_wornNow 16 = .ok (.getfield 29, 3) := by decide +kernel
theorem dX3_wornNow_19 : decode cX3_wornNow 19 = .ok (.iconst 1, 1) := by decide +kernel
theorem dX3_wornNow_20 : decode cX3_wornNow 20 = .ok (.iaload, 1) := by decide +kernel
theorem dX3_wornNow_21 : decode cX3_wornNow 21 = .ok (.iconst 1, 1) := by decide +kernel
theorem dX3_wornNow_22 : decode cX3_wornNow 22 = .ok (.if_icmp .ne 7, 3) := by decide +kernel
theorem dX3_wornNow_25 : decode cX3_wornNow 25 = .ok (.iconst 2, 1) := by decide +kernel
theorem dX3_wornNow_26 : decode cX3_wornNow 26 = .ok (.goto 4, 3) := by decide +kernel
theorem dX3_wornNow_29 : decode cX3_wornNow 29 = .ok (.iconst 0, 1) := by decide +kernel
theorem dX3_wornNow_30 : decode cX3_wornNow 30 = .ok (.iadd, 1) := by decide +kernel
theorem dX3_wornNow_31 : decode cX3_wornNow 31 = .ok (.ireturn, 1) := by decide +kernel
set_option maxRecDepth 20000 in
theorem ggX3_byCard_X3_howMany : GoodIn wsX3_byCard wsX3_howMany := goodIn_r _ [8, 9, 10, 58, 59, 60, 61, 62, 63, 64, 65, 66, 67, 68, 69, 70, 71, 72] (by decide +kernel) (by decide +kernel)
set_option maxRecDepth 20000 in
theorem gX3_byCard_X3_howMany : GoodIn wsX3_byCard (wsV RX3 97 RX3 yX3_howMany wsX3_howMany) := goodIn_app (goodIn_of _ (by decide +kernel)) ggX3_byCard_X3_howMany
set_option maxRecDepth 20000 in
theorem ggX3_byCard_X3_wornNow : GoodIn wsX3_byCard wsX3_wornNow := goodIn_r _ [14, 15, 58, 59, 60, 61, 62, 63, 64, 65, 66, 67, 68, 69, 70, 71, 72] (by decide +kernel) (by decide +kernel)
set_option maxRecDepth 20000 in
theorem gX3_byCard_X3_wornNow : GoodIn wsX3_byCard (wsV RX3 149 RX3 yX3_wornNow wsX3_wornNow) := goodIn_app (goodIn_of _ (by decide +kernel)) ggX3_byCard_X3_wornNow
set_option maxRecDepth 20000 in
theorem ggX3_byCard_X3_leastBy : GoodIn wsX3_byCard wsX3_leastBy := goodIn_r _ [19, 3, 20, 21, 22, 7, 23, 24, 25, 26, 27, 28, 29, 30, 31, 32, 33, 34, 35, 36, 37, 38, 39, 40, 41, 42, 43, 44, 45, 46, 47, 48, 49, 50, 51, 52, 53, 54, 55, 56, 57, 58, 59, 60, 61, 62, 63, 64, 65, 66, 67, 68, 69, 70, 71, 72] (by decide +kernel) (by decide +kernel)
set_option maxRecDepth 20000 in
theorem gX3_byCard_X3_leastBy : GoodIn wsX3_byCard (wsV RX3 135 RX3 yX3_leastBy wsX3_leastBy) := goodIn_app (goodIn_of _ (by decide +kernel)) ggX3_byCard_X3_leastBy
set_option maxRecDepth 20000 in
theorem ggX3_byCard_X3_behind : GoodIn wsX3_byCard wsX3_behind := goodIn_r _ [42, 43, 44, 45, 7, 46, 25, 26, 27, 28, 29, 30, 35, 36, 37, 38, 24, 47, 48, 49, 50, 51, 52, 53, 54, 55, 56, 57, 58, 59, 60, 61, 62, 63, 64, 65, 66, 67, 68, 69, 70, 71, 72] (by decide +kernel) (by decide +kernel)
set_option maxRecDepth 20000 in
theorem gX3_byCard_X3_behind : GoodIn wsX3_byCard (wsV RX3 128 RX3 yX3_behind wsX3_behind) := goodIn_app (goodIn_of _ (by decide +kernel)) ggX3_byCard_X3_behind
theorem dX3_byCard_0 : decode cX3_byCard 0 = .ok (.iconst 1, 1) := by decide +kernel
theorem dX3_byCard_1 : decode cX3_byCard 1 = .ok (.aload_n 0, 1) := by decide +kernel
theorem dX3_byCard_2 : decode cX3_byCard 2 = .ok (.aload_n 0, 1) := by decide +kernel
theorem dX3_byCard_3 : decode cX3_byCard 3 = .ok (.getfield 69, 3) := by decide +kernel
theorem dX3_byCard_6 : decode cX3_byCard 6 = .ok (.invokevirtual 97, 3) := by decide +kernel
theorem dX3_byCard_9 : decode cX3_byCard 9 = .ok (.ishl, 1) := by decide +kernel
theorem dX3_byCard_10 : decode cX3_byCard 10 = .ok (.iconst 1, 1) := by decide +kernel
theorem dX3_byCard_11 : decode cX3_byCard 11 = .ok (.isub, 1) := by decide +kernel
theorem dX3_byCard_12 : decode cX3_byCard 12 = .ok (.istore_n 2, 1) := by decide +kernel
theorem dX3_byCard_13 : decode cX3_byCard 13 = .ok (.iconst 1, 1) := by decide +kernel
theorem dX3_byCard_14 : decode cX3_byCard 14 = .ok (.aload_n 0, 1) := by decide +kernel
theorem dX3_byCard_15 : decode cX3_byCard 15 = .ok (.iconst 1, 1) := by decide +kernel
theorem dX3_byCard_16 : decode cX3_byCard 16 = .ok (.aload_n 0, 1) := by decide +kernel
theorem dX3_byCard_17 : decode cX3_byCard 17 = .ok (.getfield 69, 3) := by decide +kernel
theorem dX3_byCard_20 : decode cX3_byCard 20 = .ok (.isub, 1) := by decide +kernel
theorem dX3_byCard_21 : decode cX3_byCard 21 = .ok (.invokevirtual 97, 3) := by decide +kernel
theorem dX3_byCard_24 : decode cX3_byCard 24 = .ok (.ishl, 1) := by decide +kernel
theorem dX3_byCard_25 : decode cX3_byCard 25 = .ok (.iconst 1, 1) := by decide +kernel
theorem dX3_byCard_26 : decode cX3_byCard 26 = .ok (.isub, 1) := by decide +kernel
theorem dX3_byCard_27 : decode cX3_byCard 27 = .ok (.istore_n 3, 1) := by decide +kernel
theorem dX3_byCard_28 : decode cX3_byCard 28 = .ok (.aload_n 0, 1) := by decide +kernel
theorem dX3_byCard_29 : decode cX3_byCard 29 = .ok (.getfield 16, 3) := by decide +kernel
theorem dX3_byCard_32 : decode cX3_byCard 32 = .ok (.ifCond .ge 19, 3) := by decide +kernel
theorem dX3_byCard_35 : decode cX3_byCard 35 = .ok (.aload_n 0, 1) := by decide +kernel
theorem dX3_byCard_36 : decode cX3_byCard 36 = .ok (.aload_n 0, 1) := by decide +kernel
theorem dX3_byCard_37 : decode cX3_byCard 37 = .ok (.getfield 69, 3) := by decide +kernel
theorem dX3_byCard_40 : decode cX3_byCard 40 = .ok (.iload_n 2, 1) := by decide +kernel
theorem dX3_byCard_41 : decode cX3_byCard 41 = .ok (.iload_n 3, 1) := by decide +kernel
theorem dX3_byCard_42 : decode cX3_byCard 42 = .ok (.iload_n 1, 1) := by decide +kernel
theorem dX3_byCard_43 : decode cX3_byCard 43 = .ok (.aload_n 0, 1) := by decide +kernel
theorem dX3_byCard_44 : decode cX3_byCard 44 = .ok (.invokevirtual 149, 3) := by decide +kernel
theorem dX3_byCard_47 : decode cX3_byCard 47 = .ok (.invokevirtual 135, 3) := by decide +kernel
theorem dX3_byCard_50 : decode cX3_byCard 50 = .ok (.ireturn, 1) := by decide +kernel
theorem dX3_byCard_51 : decode cX3_byCard 51 = .ok (.aload_n 0, 1) := by decide +kernel
theorem dX3_byCard_52 : decode cX3_byCard 52 = .ok (.iconst 1, 1) := by decide +kernel
theorem dX3_byCard_53 : decode cX3_byCard 53 = .ok (.aload_n 0, 1) := by decide +kernel
theorem dX3_byCard_54 : decode cX3_byCard 54 = .ok (.getfield 69, 3) := by decide +kernel
theorem dX3_byCard_57 : decode cX3_byCard 57 = .ok (.isub, 1) := by decide +kernel
theorem dX3_byCard_58 : decode cX3_byCard 58 = .ok (.aload_n 0, 1) := by decide +kernel
theorem dX3_byCard_59 : decode cX3_byCard 59 = .ok (.getfield 16, 3) := by decide +kernel
theorem dX3_byCard_62 : decode cX3_byCard 62 = .ok (.aload_n 0, 1) := by decide +kernel
theorem dX3_byCard_63 : decode cX3_byCard 63 = .ok (.getfield 35, 3) := by decide +kernel
theorem dX3_byCard_66 : decode cX3_byCard 66 = .ok (.bipush 6, 2) := by decide +kernel
theorem dX3_byCard_68 : decode cX3_byCard 68 = .ok (.aload_n 0, 1) := by decide +kernel
theorem dX3_byCard_69 : decode cX3_byCard 69 = .ok (.getfield 69, 3) := by decide +kernel
theorem dX3_byCard_72 : decode cX3_byCard 72 = .ok (.imul, 1) := by decide +kernel
theorem dX3_byCard_73 : decode cX3_byCard 73 = .ok (.iload_n 1, 1) := by decide +kernel
theorem dX3_byCard_74 : decode cX3_byCard 74 = .ok (.iadd, 1) := by decide +kernel
theorem dX3_byCard_75 : decode cX3_byCard 75 = .ok (.iaload, 1) := by decide +kernel
theorem dX3_byCard_76 : decode cX3_byCard 76 = .ok (.iload_n 3, 1) := by decide +kernel
theorem dX3_byCard_77 : decode cX3_byCard 77 = .ok (.iload_n 2, 1) := by decide +kernel
theorem dX3_byCard_78 : decode cX3_byCard 78 = .ok (.iconst 1, 1) := by decide +kernel
theorem dX3_byCard_79 : decode cX3_byCard 79 = .ok (.iload_n 1, 1) := by decide +kernel
theorem dX3_byCard_80 : decode cX3_byCard 80 = .ok (.ishl, 1) := by decide +kernel
theorem dX3_byCard_81 : decode cX3_byCard 81 = .ok (.iconst (-1), 1) := by decide +kernel
theorem dX3_byCard_82 : decode cX3_byCard 82 = .ok (.ixor, 1) := by decide +kernel
theorem dX3_byCard_83 : decode cX3_byCard 83 = .ok (.iand, 1) := by decide +kernel
theorem dX3_byCard_84 : decode cX3_byCard 84 = .ok (.aload_n 0, 1) := by decide +kernel
theorem dX3_byCard_85 : decode cX3_byCard 85 = .ok (.invokevirtual 149, 3) := by decide +kernel
theorem dX3_byCard_88 : decode cX3_byCard 88 = .ok (.invokevirtual 128, 3) := by decide +kernel
theorem dX3_byCard_91 : decode cX3_byCard 91 = .ok (.ineg, 1) := by decide +kernel
theorem dX3_byCard_92 : decode cX3_byCard 92 = .ok (.ireturn, 1) := by decide +kernel
set_option maxRecDepth 20000 in
theorem ggX3_bestPlace_X3_inPile : GoodIn wsX3_bestPlace wsX3_inPile := goodIn_r _ [9, 10, 11, 100, 101, 102, 103, 104, 105, 106, 107, 108, 109, 110, 111, 112, 113, 114] (by decide +kernel) (by decide +kernel)
set_option maxRecDepth 20000 in
theorem gX3_bestPlace_X3_inPile : GoodIn wsX3_bestPlace (wsV RX3 82 RX3 yX3_inPile wsX3_inPile) := goodIn_app (goodIn_of _ (by decide +kernel)) ggX3_bestPlace_X3_inPile
set_option maxRecDepth 20000 in
theorem ggX3_bestPlace_X3_laysTable : GoodIn wsX3_bestPlace wsX3_laysTable := goodIn_r _ [15, 16, 17, 18, 19, 8, 20, 21, 4, 22, 23, 24, 25, 10, 26, 27, 28, 29, 30, 31, 32, 33, 34, 35, 36, 37, 38, 39, 40, 41, 42, 43, 44, 45, 46, 47, 48, 49, 50, 51, 52, 53, 54, 55, 56, 57, 58, 59, 60, 61, 62, 63, 64, 65, 66, 67, 68, 69, 70, 71, 72, 73, 74, 75, 76, 77, 100, 101, 102, 103, 104, 105, 106, 107, 108, 109, 110, 111, 112, 113, 114] (by decide +kernel) (by decide +kernel)
set_option maxRecDepth 20000 in
theorem gX3_bestPlace_X3_laysTable : GoodIn wsX3_bestPlace (wsV RX3 152 RX3 yX3_laysTable wsX3_laysTable) := goodIn_app (goodIn_of _ (by decide +kernel)) ggX3_bestPlace_X3_laysTable
set_option maxRecDepth 20000 in
theorem ggX3_bestPlace_X3_howMany : GoodIn wsX3_bestPlace wsX3_howMany := goodIn_r _ [25, 10, 21, 100, 101, 102, 103, 104, 105, 106, 107, 108, 109, 110, 111, 112, 113, 114] (by decide +kernel) (by decide +kernel)
set_option maxRecDepth 20000 in
theorem gX3_bestPlace_X3_howMany : GoodIn wsX3_bestPlace (wsV RX3 97 RX3 yX3_howMany wsX3_howMany) := goodIn_app (goodIn_of _ (by decide +kernel)) ggX3_bestPlace_X3_howMany
set_option maxRecDepth 20000 in
theorem ggX3_bestPlace_X3_why : GoodIn wsX3_bestPlace wsX3_why := goodIn_r _ [81, 1, 21, 3, 82, 55, 37, 38, 8, 39, 83, 84, 85, 86, 87, 88, 89, 90, 44, 45, 46, 5, 6, 7, 9, 10, 11, 56, 57, 58, 59, 100, 101, 102, 103, 104, 105, 106, 107, 108, 109, 110, 111, 112, 113, 114] (by decide +kernel) (by decide +kernel)
set_option maxRecDepth 20000 in
theorem gX3_bestPlace_X3_why : GoodIn wsX3_bestPlace (wsV RX3 103 RX3 yX3_why wsX3_why) := goodIn_app (goodIn_of _ (by decide +kernel)) ggX3_bestPlace_X3_why
set_option maxRecDepth 20000 in
theorem ggX3_bestPlace_X3_byCard : GoodIn wsX3_bestPlace wsX3_byCard := goodIn_r _ [94, 3, 82, 4, 22, 23, 24, 8, 25, 10, 21, 95, 96, 97, 98, 99, 47, 48, 49, 50, 51, 52, 53, 54, 55, 37, 38, 39, 44, 45, 46, 40, 41, 42, 43, 56, 57, 58, 59, 60, 61, 62, 63, 64, 65, 66, 67, 68, 69, 70, 71, 72, 73, 74, 75, 76, 77, 16, 100, 101, 102, 103, 104, 105, 106, 107, 108, 109, 110, 111, 112, 113, 114] (by decide +kernel) (by decide +kernel)
set_option maxRecDepth 20000 in
theorem gX3_bestPlace_X3_byCard : GoodIn wsX3_bestPlace (wsV RX3 155 RX3 yX3_byCard wsX3_byCard) := goodIn_app (goodIn_of _ (by decide +kernel)) ggX3_bestPlace_X3_byCard
theorem dX3_bestPlace_0 : decode cX3_bestPlace 0 = .ok (.aload_n 0, 1) := by decide +kernel
theorem dX3_bestPlace_1 : decode cX3_bestPlace 1 = .ok (.aload_n 0, 1) := by decide +kernel
theorem dX3_bestPlace_2 : decode cX3_bestPlace 2 = .ok (.getfield 72, 3) := by decide +kernel
theorem dX3_bestPlace_5 : decode cX3_bestPlace 5 = .ok (.ifCond .eq 14, 3) := by decide +kernel
theorem dX3_bestPlace_8 : decode cX3_bestPlace 8 = .ok (.aload_n 0, 1) := by decide +kernel
theorem dX3_bestPlace_9 : decode cX3_bestPlace 9 = .ok (.invokevirtual 82, 3) := by decide +kernel
theorem dX3_bestPlace_12 : decode cX3_bestPlace 12 = .ok (.ifCond .ne 7, 3) := by decide +kernel
theorem dX3_bestPlace_15 : decode cX3_bestPlace 15 = .ok (.iconst 0, 1) := by decide +kernel
theorem dX3_bestPlace_16 : decode cX3_bestPlace 16 = .ok (.goto 4, 3) := by decide +kernel
theorem dX3_bestPlace_19 : decode cX3_bestPlace 19 = .ok (.iconst 1, 1) := by decide +kernel
theorem dX3_bestPlace_20 : decode cX3_bestPlace 20 = .ok (.putfield 41, 3) := by decide +kernel
theorem dX3_bestPlace_23 : decode cX3_bestPlace 23 = .ok (.aload_n 0, 1) := by decide +kernel
theorem dX3_bestPlace_24 : decode cX3_bestPlace 24 = .ok (.getfield 41, 3) := by decide +kernel
theorem dX3_bestPlace_27 : decode cX3_bestPlace 27 = .ok (.ifCond .eq 5, 3) := by decide +kernel
theorem dX3_bestPlace_30 : decode cX3_bestPlace 30 = .ok (.iconst (-1), 1) := by decide +kernel
theorem dX3_bestPlace_31 : decode cX3_bestPlace 31 = .ok (.ireturn, 1) := by decide +kernel
theorem dX3_bestPlace_32 : decode cX3_bestPlace 32 = .ok (.aload_n 0, 1) := by decide +kernel
theorem dX3_bestPlace_33 : decode cX3_bestPlace 33 = .ok (.invokevirtual 152, 3) := by decide +kernel
theorem dX3_bestPlace_36 : decode cX3_bestPlace 36 = .ok (.iconst (-1), 1) := by decide +kernel
theorem dX3_bestPlace_37 : decode cX3_bestPlace 37 = .ok (.istore_n 1, 1) := by decide +kernel
theorem dX3_bestPlace_38 : decode cX3_bestPlace 38 = .ok (.sipush (-1000), 3) := by decide +kernel
theorem dX3_bestPlace_41 : decode cX3_bestPlace 41 = .ok (.istore_n 2, 1) := by decide +kernel
theorem dX3_bestPlace_42 : decode cX3_bestPlace 42 = .ok (.iconst 0, 1) := by decide +kernel
theorem dX3_bestPlace_43 : decode cX3_bestPlace 43 = .ok (.istore_n 3, 1) := by decide +kernel
theorem dX3_bestPlace_44 : decode cX3_bestPlace 44 = .ok (.iload_n 3, 1) := by decide +kernel
theorem dX3_bestPlace_45 : decode cX3_bestPlace 45 = .ok (.aload_n 0, 1) := by decide +kernel
theorem dX3_bestPlace_46 : decode cX3_bestPlace 46 = .ok (.aload_n 0, 1) := by decide +kernel
theorem dX3_bestPlace_47 : decode cX3_bestPlace 47 = .ok (.getfield 69, 3) := by decide +kernel
theorem dX3_bestPlace_50 : decode cX3_bestPlace 50 = .ok (.invokevirtual 97, 3) := by decide +kernel
theorem dX3_bestPlace_53 : decode cX3_bestPlace 53 = .ok (.if_icmp .ge 80, 3) := by decide +kernel
theorem dX3_bestPlace_56 : decode cX3_bestPlace 56 = .ok (.aload_n 0, 1) := by decide +kernel
theorem dX3_bestPlace_57 : decode cX3_bestPlace 57 = .ok (.aload_n 0, 1) := by decide +kernel
theorem dX3_bestPlace_58 : decode cX3_bestPlace 58 = .ok (.getfield 35, 3) := by decide +kernel
theorem dX3_bestPlace_61 : decode cX3_bestPlace 61 = .ok (.bipush 6, 2) := by decide +kernel
theorem dX3_bestPlace_63 : decode cX3_bestPlace 63 = .ok (.aload_n 0, 1) := by decide +kernel
theorem dX3_bestPlace_64 : decode cX3_bestPlace 64 = .ok (.getfield 69, 3) := by decide +kernel
theorem dX3_bestPlace_67 : decode cX3_bestPlace 67 = .ok (.imul, 1) := by decide +kernel
theorem dX3_bestPlace_68 : decode cX3_bestPlace 68 = .ok (.iload_n 3, 1) := by decide +kernel
theorem dX3_bestPlace_69 : decode cX3_bestPlace 69 = .ok (.iadd, 1) := by decide +kernel
theorem dX3_bestPlace_70 : decode cX3_bestPlace 70 = .ok (.iaload, 1) := by decide +kernel
theorem dX3_bestPlace_71 : decode cX3_bestPlace 71 = .ok (.invokevirtual 103, 3) := by decide +kernel
theorem dX3_bestPlace_74 : decode cX3_bestPlace 74 = .ok (.ifCond .ne 7, 3) := by decide +kernel
theorem dX3_bestPlace_77 : decode cX3_bestPlace 77 = .ok (.iconst 1, 1) := by decide +kernel
theorem dX3_bestPlace_78 : decode cX3_bestPlace 78 = .ok (.goto 4, 3) := by decide +kernel
theorem dX3_bestPlace_81 : decode cX3_bestPlace 81 = .ok (.iconst 0, 1) := by decide +kernel
theorem dX3_bestPlace_82 : decode cX3_bestPlace 82 = .ok (.istore 4, 2) := by decide +kernel
theorem dX3_bestPlace_84 : decode cX3_bestPlace 84 = .ok (.iload 4, 2) := by decide +kernel
theorem dX3_bestPlace_86 : decode cX3_bestPlace 86 = .ok (.ifCond .eq 11, 3) := by decide +kernel
theorem dX3_bestPlace_89 : decode cX3_bestPlace 89 = .ok (.aload_n 0, 1) := by decide +kernel
theorem dX3_bestPlace_90 : decode cX3_bestPlace 90 = .ok (.iload_n 3, 1) := by decide +kernel
theorem dX3_bestPlace_91 : decode cX3_bestPlace 91 = .ok (.invokevirtual 155, 3) := by decide +kernel
theorem dX3_bestPlace_94 : decode cX3_bestPlace 94 = .ok (.goto 6, 3) := by decide +kernel
theorem dX3_bestPlace_97 : decode cX3_bestPlace 97 = .ok (.sipush (-1000), 3) := by decide +kernel
theorem dX3_bestPlace_100 : decode cX3_bestPlace 100 = .ok (.istore 5, 2) := by decide +kernel
theorem dX3_bestPlace_102 : decode cX3_bestPlace 102 = .ok (.iload 5, 2) := by decide +kernel
theorem dX3_bestPlace_104 : decode cX3_bestPlace 104 = .ok (.iload_n 2, 1) := by decide +kernel
theorem dX3_bestPlace_105 : decode cX3_bestPlace 105 = .ok (.if_icmp .le 7, 3) := by decide +kernel
theorem dX3_bestPlace_108 : decode cX3_bestPlace 108 = .ok (.iload_n 3, 1) := by decide +kernel
theorem dX3_bestPlace_109 : decode cX3_bestPlace 109 = .ok (.goto 4, 3) := by decide +kernel
theorem dX3_bestPlace_112 : decode cX3_bestPlace 112 = .ok (.iload_n 1, 1) := by decide +kernel
theorem dX3_bestPlace_113 : decode cX3_bestPlace 113 = .ok (.istore_n 1, 1) := by decide +kernel
theorem dX3_bestPlace_114 : decode cX3_bestPlace 114 = .ok (.iload 5, 2) := by decide +kernel
theorem dX3_bestPlace_116 : decode cX3_bestPlace 116 = .ok (.iload_n 2, 1) := by decide +kernel
theorem dX3_bestPlace_117 : decode cX3_bestPlace 117 = .ok (.if_icmp .le 8, 3) := by decide +kernel
theorem dX3_bestPlace_120 : decode cX3_bestPlace 120 = .ok (.iload 5, 2) := by decide +kernel
theorem dX3_bestPlace_122 : decode cX3_bestPlace 122 = .ok (.goto 4, 3) := by decide +kernel
theorem dX3_bestPlace_125 : decode cX3_bestPlace 125 = .ok (.iload_n 2, 1) := by decide +kernel
theorem dX3_bestPlace_126 : decode cX3_bestPlace 126 = .ok (.istore_n 2, 1) := by decide +kernel
theorem dX3_bestPlace_127 : decode cX3_bestPlace 127 = .ok (.iinc 3 1, 3) := by decide +kernel
theorem dX3_bestPlace_130 : decode cX3_bestPlace 130 = .ok (.goto (-86), 3) := by decide +kernel
theorem dX3_bestPlace_133 : decode cX3_bestPlace 133 = .ok (.iload_n 1, 1) := by decide +kernel
theorem dX3_bestPlace_134 : decode cX3_bestPlace 134 = .ok (.ireturn, 1) := by decide +kernel
set_option maxRecDepth 20000 in
theorem ggX3_best_X3_bestPlace : GoodIn wsX3_best wsX3_bestPlace := goodIn_r _ [5, 6, 7, 8, 9, 10, 11, 12, 4, 13, 14, 15, 16, 17, 18, 19, 20, 21, 22, 23, 24, 25, 26, 27, 28, 29, 30, 31, 32, 33, 34, 35, 36, 37, 38, 39, 40, 41, 42, 43, 44, 45, 46, 47, 48, 49, 50, 51, 52, 53, 54, 55, 56, 57, 58, 59, 60, 61, 62, 63, 64, 65, 66, 67, 68, 69, 70, 71, 72, 73, 74, 75, 76, 77, 78, 79, 80, 81, 82, 83, 84, 85, 86, 87, 88, 89, 90, 91, 92, 93, 94, 95, 96, 97, 98, 99, 100, 101, 102, 103, 104, 105, 106, 107, 108, 109, 110, 111, 112, 113, 114, 115, 116, 117, 118] (by decide +kernel) (by decide +kernel)
set_option maxRecDepth 20000 in
theorem gX3_best_X3_bestPlace : GoodIn wsX3_best (wsV RX3 158 RX3 yX3_bestPlace wsX3_bestPlace) := goodIn_app (goodIn_of _ (by decide +kernel)) ggX3_best_X3_bestPlace
set_option maxRecDepth 20000 in
theorem ggX3_best_X3_byCard : GoodIn wsX3_best wsX3_byCard := goodIn_r _ [98, 8, 86, 9, 26, 27, 28, 4, 29, 14, 25, 99, 100, 101, 102, 103, 51, 52, 53, 54, 55, 56, 57, 58, 59, 41, 42, 43, 48, 49, 50, 44, 45, 46, 47, 60, 61, 62, 63, 64, 65, 66, 67, 68, 69, 70, 71, 72, 73, 74, 75, 76, 77, 78, 79, 80, 81, 20, 104, 105, 106, 107, 108, 109, 110, 111, 112, 113, 114, 115, 116, 117, 118] (by decide +kernel) (by decide +kernel)
set_option maxRecDepth 20000 in
theorem gX3_best_X3_byCard : GoodIn wsX3_best (wsV RX3 155 RX3 yX3_byCard wsX3_byCard) := goodIn_app (goodIn_of _ (by decide +kernel)) ggX3_best_X3_byCard
theorem dX3_best_0 : decode cX3_best 0 = .ok (.aload_n 0, 1) := by decide +kernel
theorem dX3_best_1 : decode cX3_best 1 = .ok (.invokevirtual 158, 3) := by decide +kernel
theorem dX3_best_4 : decode cX3_best 4 = .ok (.istore_n 1, 1) := by decide +kernel
theorem dX3_best_5 : decode cX3_best 5 = .ok (.iload_n 1, 1) := by decide +kernel
theorem dX3_best_6 : decode cX3_best 6 = .ok (.ifCond .ge 7, 3) := by decide +kernel
theorem dX3_best_9 : decode cX3_best 9 = .ok (.iconst 0, 1) := by decide +kernel
theorem dX3_best_10 : decode cX3_best 10 = .ok (.goto 8, 3) := by decide +kernel
theorem dX3_best_13 : decode cX3_best 13 = .ok (.aload_n 0, 1) := by decide +kernel
theorem dX3_best_14 : decode cX3_best 14 = .ok (.iload_n 1, 1) := by decide +kernel
theorem dX3_best_15 : decode cX3_best 15 = .ok (.invokevirtual 155, 3) := by decide +kernel
theorem dX3_best_18 : decode cX3_best 18 = .ok (.ireturn, 1) := by decide +kernel
set_option maxRecDepth 20000 in
theorem ggX3_bestCard_X3_bestPlace : GoodIn wsX3_bestCard wsX3_bestPlace := goodIn_r _ [7, 8, 9, 2, 1, 10, 11, 12, 6, 13, 14, 15, 16, 17, 18, 19, 20, 21, 22, 23, 24, 25, 26, 27, 28, 29, 30, 31, 32, 33, 34, 35, 36, 37, 38, 39, 40, 41, 42, 43, 44, 45, 46, 47, 48, 49, 50, 51, 52, 53, 54, 55, 56, 57, 58, 59, 60, 61, 62, 63, 64, 65, 66, 67, 68, 69, 70, 71, 72, 73, 74, 75, 76, 77, 78, 79, 80, 81, 82, 83, 84, 85, 86, 87, 88, 89, 90, 91, 92, 93, 94, 95, 96, 97, 98, 99, 100, 101, 102, 103, 104, 105, 106, 107, 108, 109, 110, 111, 112, 113, 114, 115, 116, 117, 118] (by decide +kernel) (by decide +kernel)
set_option maxRecDepth 20000 in
theorem gX3_bestCard_X3_bestPlace : GoodIn wsX3_bestCard (wsV RX3 158 RX3 yX3_bestPlace wsX3_bestPlace) := goodIn_app (goodIn_of _ (by decide +kernel)) ggX3_bestCard_X3_bestPlace
theorem dX3_bestCard_0 : decode cX3_bestCard 0 = .ok (.aload_n 0, 1) := by decide +kernel
theorem dX3_bestCard_1 : decode cX3_bestCard 1 = .ok (.invokevirtual 158, 3) := by decide +kernel
theorem dX3_bestCard_4 : decode cX3_bestCard 4 = .ok (.istore_n 1, 1) := by decide +kernel
theorem dX3_bestCard_5 : decode cX3_bestCard 5 = .ok (.iload_n 1, 1) := by decide +kernel
theorem dX3_bestCard_6 : decode cX3_bestCard 6 = .ok (.ifCond .ge 7, 3) := by decide +kernel
theorem dX3_bestCard_9 : decode cX3_bestCard 9 = .ok (.iconst 0, 1) := by decide +kernel
theorem dX3_bestCard_10 : decode cX3_bestCard 10 = .ok (.goto 17, 3) := by decide +kernel
theorem dX3_bestCard_13 : decode cX3_bestCard 13 = .ok (.aload_n 0, 1) := by decide +kernel
theorem dX3_bestCard_14 : decode cX3_bestCard 14 = .ok (.getfield 35, 3) := by decide +kernel
theorem dX3_bestCard_17 : decode cX3_bestCard 17 = .ok (.bipush 6, 2) := by decide +kernel
theorem dX3_bestCard_19 : decode cX3_bestCard 19 = .ok (.aload_n 0, 1) := by decide +kernel
theorem dX3_bestCard_20 : decode cX3_bestCard 20 = .ok (.getfield 69, 3) := by decide +kernel
theorem dX3_bestCard_23 : decode cX3_bestCard 23 = .ok (.imul, 1) := by decide +kernel
theorem dX3_bestCard_24 : decode cX3_bestCard 24 = .ok (.iload_n 1, 1) := by decide +kernel
theorem dX3_bestCard_25 : decode cX3_bestCard 25 = .ok (.iadd, 1) := by decide +kernel
theorem dX3_bestCard_26 : decode cX3_bestCard 26 = .ok (.iaload, 1) := by decide +kernel
theorem dX3_bestCard_27 : decode cX3_bestCard 27 = .ok (.ireturn, 1) := by decide +kernel
theorem dX3_wonByFirst_0 : decode cX3_wonByFirst 0 = .ok (.aload_n 0, 1) := by decide +kernel
theorem dX3_wonByFirst_1 : decode cX3_wonByFirst 1 = .ok (.iconst 0, 1) := by decide +kernel
theorem dX3_wonByFirst_2 : decode cX3_wonByFirst 2 = .ok (.putfield 41, 3) := by decide +kernel
theorem dX3_wonByFirst_5 : decode cX3_wonByFirst 5 = .ok (.aload_n 0, 1) := by decide +kernel
theorem dX3_wonByFirst_6 : decode cX3_wonByFirst 6 = .ok (.getfield 32, 3) := by decide +kernel
theorem dX3_wonByFirst_9 : decode cX3_wonByFirst 9 = .ok (.iconst 0, 1) := by decide +kernel
theorem dX3_wonByFirst_10 : decode cX3_wonByFirst 10 = .ok (.iaload, 1) := by decide +kernel
theorem dX3_wonByFirst_11 : decode cX3_wonByFirst 11 = .ok (.ireturn, 1) := by decide +kernel
theorem dX3_wonBySecond_0 : decode cX3_wonBySecond 0 = .ok (.aload_n 0, 1) := by decide +kernel
theorem dX3_wonBySecond_1 : decode cX3_wonBySecond 1 = .ok (.iconst 0, 1) := by decide +kernel
theorem dX3_wonBySecond_2 : decode cX3_wonBySecond 2 = .ok (.putfield 41, 3) := by decide +kernel
theorem dX3_wonBySecond_5 : decode cX3_wonBySecond 5 = .ok (.aload_n 0, 1) := by decide +kernel
theorem dX3_wonBySecond_6 : decode cX3_wonBySecond 6 = .ok (.getfield 32, 3) := by decide +kernel
theorem dX3_wonBySecond_9 : decode cX3_wonBySecond 9 = .ok (.iconst 1, 1) := by decide +kernel
theorem dX3_wonBySecond_10 : decode cX3_wonBySecond 10 = .ok (.iaload, 1) := by decide +kernel
theorem dX3_wonBySecond_11 : decode cX3_wonBySecond 11 = .ok (.ireturn, 1) := by decide +kernel
