theorem dX7_told_11 : decode cX7_told 11 = .ok (.iload_n 2, 1) := by decide +kernel
theorem dX7_told_12 : decode cX7_told 12 = .ok (.tableswitch 101 0 10 #[60, 60, 60, 60, 60, 60, 67, 77, 83, 89, 95], 60) := by decide +kernel
theorem dX7_told_72 : decode cX7_told 72 = .ok (.aload_n 0, 1) := by decide +kernel
theorem dX7_told_73 : decode cX7_told 73 = .ok (.iload_n 1, 1) := by decide +kernel
theorem dX7_told_74 : decode cX7_told 74 = .ok (.iload_n 2, 1) := by decide +kernel
theorem dX7_told_75 : decode cX7_told 75 = .ok (.invokevirtual 75, 3) := by decide +kernel
theorem dX7_told_78 : decode cX7_told 78 = .ok (.ireturn, 1) := by decide +kernel
theorem dX7_told_79 : decode cX7_told 79 = .ok (.iconst 1, 1) := by decide +kernel
theorem dX7_told_80 : decode cX7_told 80 = .ok (.aload_n 0, 1) := by decide +kernel
theorem dX7_told_81 : decode cX7_told 81 = .ok (.iload_n 1, 1) := by decide +kernel
theorem dX7_told_82 : decode cX7_told 82 = .ok (.bipush 6, 2) := by decide +kernel
theorem dX7_told_84 : decode cX7_told 84 = .ok (.invokevirtual 75, 3) := by decide +kernel
theorem dX7_told_87 : decode cX7_told 87 = .ok (.isub, 1) := by decide +kernel
theorem dX7_told_88 : decode cX7_told 88 = .ok (.ireturn, 1) := by decide +kernel
theorem dX7_told_89 : decode cX7_told 89 = .ok (.aload_n 0, 1) := by decide +kernel
theorem dX7_told_90 : decode cX7_told 90 = .ok (.iload_n 1, 1) := by decide +kernel
theorem dX7_told_91 : decode cX7_told 91 = .ok (.invokevirtual 130, 3) := by decide +kernel
theorem dX7_told_94 : decode cX7_told 94 = .ok (.ireturn, 1) := by decide +kernel
theorem dX7_told_95 : decode cX7_told 95 = .ok (.aload_n 0, 1) := by decide +kernel
theorem dX7_told_96 : decode cX7_told 96 = .ok (.iload_n 1, 1) := by decide +kernel
theorem dX7_told_97 : decode cX7_told 97 = .ok (.invokevirtual 136, 3) := by decide +kernel
theorem dX7_told_100 : decode cX7_told 100 = .ok (.ireturn, 1) := by decide +kernel
theorem dX7_told_101 : decode cX7_told 101 = .ok (.aload_n 0, 1) := by decide +kernel
theorem dX7_told_102 : decode cX7_told 102 = .ok (.iload_n 1, 1) := by decide +kernel
theorem dX7_told_103 : decode cX7_told 103 = .ok (.invokevirtual 139, 3) := by decide +kernel
theorem dX7_told_106 : decode cX7_told 106 = .ok (.ireturn, 1) := by decide +kernel
theorem dX7_told_107 : decode cX7_told 107 = .ok (.aload_n 0, 1) := by decide +kernel
theorem dX7_told_108 : decode cX7_told 108 = .ok (.iload_n 1, 1) := by decide +kernel
theorem dX7_told_109 : decode cX7_told 109 = .ok (.invokevirtual 142, 3) := by decide +kernel
theorem dX7_told_112 : decode cX7_told 112 = .ok (.ireturn, 1) := by decide +kernel
theorem dX7_told_113 : decode cX7_told 113 = .ok (.ldc 100, 2) := by decide +kernel
theorem dX7_told_115 : decode cX7_told 115 = .ok (.ireturn, 1) := by decide +kernel
theorem dX7_isOf_0 : decode cX7_isOf 0 = .ok (.iload_n 0, 1) := by decide +kernel
theorem dX7_isOf_1 : decode cX7_isOf 1 = .ok (.iload_n 1, 1) := by decide +kernel
theorem dX7_isOf_2 : decode cX7_isOf 2 = .ok (.if_icmp .eq 27, 3) := by decide +kernel
theorem dX7_isOf_5 : decode cX7_isOf 5 = .ok (.iload_n 1, 1) := by decide +kernel
theorem dX7_isOf_6 : decode cX7_isOf 6 = .ok (.ifCond .eq 23, 3) := by decide +kernel
theorem dX7_isOf_9 : decode cX7_isOf 9 = .ok (.iload_n 1, 1) := by decide +kernel
theorem dX7_isOf_10 : decode cX7_isOf 10 = .ok (.iconst 1, 1) := by decide +kernel
theorem dX7_isOf_11 : decode cX7_isOf 11 = .ok (.if_icmp .ne 8, 3) := by decide +kernel
theorem dX7_isOf_14 : decode cX7_isOf 14 = .ok (.iload_n 0, 1) := by decide +kernel
theorem dX7_isOf_15 : decode cX7_isOf 15 = .ok (.iconst 3, 1) := by decide +kernel
theorem dX7_isOf_16 : decode cX7_isOf 16 = .ok (.if_icmp .eq 13, 3) := by decide +kernel
theorem dX7_isOf_19 : decode cX7_isOf 19 = .ok (.iload_n 1, 1) := by decide +kernel
theorem dX7_isOf_20 : decode cX7_isOf 20 = .ok (.iconst 2, 1) := by decide +kernel
theorem dX7_isOf_21 : decode cX7_isOf 21 = .ok (.if_icmp .ne 12, 3) := by decide +kernel
theorem dX7_isOf_24 : decode cX7_isOf 24 = .ok (.iload_n 0, 1) := by decide +kernel
theorem dX7_isOf_25 : decode cX7_isOf 25 = .ok (.iconst 4, 1) := by decide +kernel
theorem dX7_isOf_26 : decode cX7_isOf 26 = .ok (.if_icmp .ne 7, 3) := by decide +kernel
theorem dX7_isOf_29 : decode cX7_isOf 29 = .ok (.iconst 1, 1) := by decide +kernel
theorem dX7_isOf_30 : decode cX7_isOf 30 = .ok (.goto 4, 3) := by decide +kernel
theorem dX7_isOf_33 : decode cX7_isOf 33 = .ok (.iconst 0, 1) := by decide +kernel
theorem dX7_isOf_34 : decode cX7_isOf 34 = .ok (.ireturn, 1) := by decide +kernel
set_option maxRecDepth 20000 in
theorem ggX7_as_X7_isHouse : GoodIn wsX7_as wsX7_isHouse := goodIn_r _ [8, 9, 10, 11, 7, 12, 20, 21, 22, 23, 24, 25, 26, 27, 28, 29, 30, 31, 32, 33, 34, 35, 36, 37, 38, 39, 40, 41, 42, 43, 44, 45, 46, 47, 48, 49, 50, 51, 52] (by decide +kernel) (by decide +kernel)
set_option maxRecDepth 20000 in
theorem gX7_as_X7_isHouse : GoodIn wsX7_as (wsV RX7 133 RX7 yX7_isHouse wsX7_isHouse) := goodIn_app (goodIn_of _ (by decide +kernel)) ggX7_as_X7_isHouse
set_option maxRecDepth 20000 in
theorem ggX7_as_X7_isIn : GoodIn wsX7_as wsX7_isIn := goodIn_r _ [12] (by decide +kernel) (by decide +kernel)
set_option maxRecDepth 20000 in
theorem gX7_as_X7_isIn : GoodIn wsX7_as (va_wsS RX7 71 yX7_isIn wsX7_isIn) := goodIn_app (goodIn_of _ (by decide +kernel)) ggX7_as_X7_isIn
set_option maxRecDepth 20000 in
theorem ggX7_as_X7_of : GoodIn wsX7_as wsX7_of := goodIn_r _ [16, 9, 20, 21, 22, 23, 24, 25, 26, 27, 28, 29, 30, 31, 32, 33, 34, 35, 36, 37, 38, 39, 40, 41, 42, 43, 44, 45, 46, 47, 48, 49, 50, 51, 52] (by decide +kernel) (by decide +kernel)
set_option maxRecDepth 20000 in
theorem gX7_as_X7_of : GoodIn wsX7_as (wsV RX7 75 RX7 yX7_of wsX7_of) := goodIn_app (goodIn_of _ (by decide +kernel)) ggX7_as_X7_of
set_option maxRecDepth 20000 in
theorem ggX7_as_X7_isOf : GoodIn wsX7_as wsX7_isOf := goodIn_r _ [19] (by decide +kernel) (by decide +kernel)
set_option maxRecDepth 20000 in
theorem gX7_as_X7_isOf : GoodIn wsX7_as (va_wsS RX7 145 yX7_isOf wsX7_isOf) := goodIn_app (goodIn_of _ (by decide +kernel)) ggX7_as_X7_isOf
theorem dX7_as_0 : decode cX7_as 0 = .ok (.aload_n 0, 1) := by decide +kernel
theorem dX7_as_1 : decode cX7_as 1 = .ok (.iload_n 1, 1) := by decide +kernel
theorem dX7_as_2 : decode cX7_as 2 = .ok (.invokevirtual 133, 3) := by decide +kernel
theorem dX7_as_5 : decode cX7_as 5 = .ok (.ifCond .eq 15, 3) := by decide +kernel
theorem dX7_as_8 : decode cX7_as 8 = .ok (.iload_n 2, 1) := by decide +kernel
theorem dX7_as_9 : decode cX7_as 9 = .ok (.i2l, 1) := by decide +kernel
theorem dX7_as_10 : decode cX7_as 10 = .ok (.lconst 0, 1) := by decide +kernel
theorem dX7_as_11 : decode cX7_as 11 = .ok (.ldc2_w 94, 3) := by decide +kernel
theorem dX7_as_14 : decode cX7_as 14 = .ok (.invokestatic 71, 3) := by decide +kernel
theorem dX7_as_17 : decode cX7_as 17 = .ok (.ifCond .ne 6, 3) := by decide +kernel
theorem dX7_as_20 : decode cX7_as 20 = .ok (.ldc 100, 2) := by decide +kernel
theorem dX7_as_22 : decode cX7_as 22 = .ok (.ireturn, 1) := by decide +kernel
theorem dX7_as_23 : decode cX7_as 23 = .ok (.aload_n 0, 1) := by decide +kernel
theorem dX7_as_24 : decode cX7_as 24 = .ok (.iload_n 1, 1) := by decide +kernel
theorem dX7_as_25 : decode cX7_as 25 = .ok (.iconst 0, 1) := by decide +kernel
theorem dX7_as_26 : decode cX7_as 26 = .ok (.invokevirtual 75, 3) := by decide +kernel
theorem dX7_as_29 : decode cX7_as 29 = .ok (.iload_n 2, 1) := by decide +kernel
theorem dX7_as_30 : decode cX7_as 30 = .ok (.invokestatic 145, 3) := by decide +kernel
theorem dX7_as_33 : decode cX7_as 33 = .ok (.ifCond .eq 12, 3) := by decide +kernel
theorem dX7_as_36 : decode cX7_as 36 = .ok (.aload_n 0, 1) := by decide +kernel
theorem dX7_as_37 : decode cX7_as 37 = .ok (.iload_n 1, 1) := by decide +kernel
theorem dX7_as_38 : decode cX7_as 38 = .ok (.iconst 3, 1) := by decide +kernel
theorem dX7_as_39 : decode cX7_as 39 = .ok (.invokevirtual 75, 3) := by decide +kernel
theorem dX7_as_42 : decode cX7_as 42 = .ok (.goto 5, 3) := by decide +kernel
theorem dX7_as_45 : decode cX7_as 45 = .ok (.ldc 148, 2) := by decide +kernel
theorem dX7_as_47 : decode cX7_as 47 = .ok (.ireturn, 1) := by decide +kernel
set_option maxRecDepth 20000 in
theorem ggX7_turns_X7_isHouse : GoodIn wsX7_turns wsX7_isHouse := goodIn_r _ [7, 8, 9, 10, 6, 11, 16, 17, 18, 19, 20, 21, 22, 23, 24, 25, 26, 27, 28, 29, 30, 31, 32, 33, 34, 35, 36, 37, 38, 39, 40, 41, 42, 43, 44, 45, 46, 47, 48] (by decide +kernel) (by decide +kernel)
set_option maxRecDepth 20000 in
theorem gX7_turns_X7_isHouse : GoodIn wsX7_turns (wsV RX7 133 RX7 yX7_isHouse wsX7_isHouse) := goodIn_app (goodIn_of _ (by decide +kernel)) ggX7_turns_X7_isHouse
set_option maxRecDepth 20000 in
theorem ggX7_turns_X7_isIn : GoodIn wsX7_turns wsX7_isIn := goodIn_r _ [11] (by decide +kernel) (by decide +kernel)
set_option maxRecDepth 20000 in
theorem gX7_turns_X7_isIn : GoodIn wsX7_turns (va_wsS RX7 71 yX7_isIn wsX7_isIn) := goodIn_app (goodIn_of _ (by decide +kernel)) ggX7_turns_X7_isIn
set_option maxRecDepth 20000 in
theorem ggX7_turns_X7_becomes : GoodIn wsX7_turns wsX7_becomes := goodIn_r _ [15, 8, 16, 17, 18, 19, 20, 21, 22, 23, 24, 25, 26, 27, 28, 29, 30, 31, 32, 33, 34, 35, 36, 37, 38, 39, 40, 41, 42, 43, 44, 45, 46, 47, 48] (by decide +kernel) (by decide +kernel)
set_option maxRecDepth 20000 in
theorem gX7_turns_X7_becomes : GoodIn wsX7_turns (wsV RX7 149 RX7 yX7_becomes wsX7_becomes) := goodIn_app (goodIn_of _ (by decide +kernel)) ggX7_turns_X7_becomes
theorem dX7_turns_0 : decode cX7_turns 0 = .ok (.aload_n 0, 1) := by decide +kernel
theorem dX7_turns_1 : decode cX7_turns 1 = .ok (.iload_n 1, 1) := by decide +kernel
theorem dX7_turns_2 : decode cX7_turns 2 = .ok (.invokevirtual 133, 3) := by decide +kernel
theorem dX7_turns_5 : decode cX7_turns 5 = .ok (.ifCond .eq 30, 3) := by decide +kernel
theorem dX7_turns_8 : decode cX7_turns 8 = .ok (.iload_n 2, 1) := by decide +kernel
theorem dX7_turns_9 : decode cX7_turns 9 = .ok (.i2l, 1) := by decide +kernel
theorem dX7_turns_10 : decode cX7_turns 10 = .ok (.lconst 0, 1) := by decide +kernel
theorem dX7_turns_11 : decode cX7_turns 11 = .ok (.ldc2_w 94, 3) := by decide +kernel
theorem dX7_turns_14 : decode cX7_turns 14 = .ok (.invokestatic 71, 3) := by decide +kernel
theorem dX7_turns_17 : decode cX7_turns 17 = .ok (.ifCond .eq 18, 3) := by decide +kernel
theorem dX7_turns_20 : decode cX7_turns 20 = .ok (.aload_n 0, 1) := by decide +kernel
theorem dX7_turns_21 : decode cX7_turns 21 = .ok (.bipush 6, 2) := by decide +kernel
theorem dX7_turns_23 : decode cX7_turns 23 = .ok (.bipush 7, 2) := by decide +kernel
theorem dX7_turns_25 : decode cX7_turns 25 = .ok (.iload_n 1, 1) := by decide +kernel
theorem dX7_turns_26 : decode cX7_turns 26 = .ok (.imul, 1) := by decide +kernel
theorem dX7_turns_27 : decode cX7_turns 27 = .ok (.iadd, 1) := by decide +kernel
theorem dX7_turns_28 : decode cX7_turns 28 = .ok (.iload_n 2, 1) := by decide +kernel
theorem dX7_turns_29 : decode cX7_turns 29 = .ok (.invokevirtual 149, 3) := by decide +kernel
theorem dX7_turns_32 : decode cX7_turns 32 = .ok (.goto 5, 3) := by decide +kernel
theorem dX7_turns_35 : decode cX7_turns 35 = .ok (.ldc 100, 2) := by decide +kernel
theorem dX7_turns_37 : decode cX7_turns 37 = .ok (.ireturn, 1) := by decide +kernel
set_option maxRecDepth 20000 in
theorem ggX7_set_X7_isHouse : GoodIn wsX7_set wsX7_isHouse := goodIn_r _ [6, 7, 8, 9, 5, 10, 23, 24, 25, 26, 27, 28, 29, 30, 31, 32, 33, 34, 35, 36, 37, 38, 39, 40, 41, 42, 43, 44, 45, 46, 47, 48, 49, 50, 51, 52, 53, 54, 55] (by decide +kernel) (by decide +kernel)
set_option maxRecDepth 20000 in
theorem gX7_set_X7_isHouse : GoodIn wsX7_set (wsV RX7 133 RX7 yX7_isHouse wsX7_isHouse) := goodIn_app (goodIn_of _ (by decide +kernel)) ggX7_set_X7_isHouse
set_option maxRecDepth 20000 in
theorem ggX7_set_X7_mayBe : GoodIn wsX7_set wsX7_mayBe := goodIn_r _ [13, 14, 15, 16, 17, 18, 8, 9, 5, 10] (by decide +kernel) (by decide +kernel)
set_option maxRecDepth 20000 in
theorem gX7_set_X7_mayBe : GoodIn wsX7_set (va_wsS RX7 96 yX7_mayBe wsX7_mayBe) := goodIn_app (goodIn_of _ (by decide +kernel)) ggX7_set_X7_mayBe
set_option maxRecDepth 20000 in
theorem ggX7_set_X7_becomes : GoodIn wsX7_set wsX7_becomes := goodIn_r _ [22, 7, 23, 24, 25, 26, 27, 28, 29, 30, 31, 32, 33, 34, 35, 36, 37, 38, 39, 40, 41, 42, 43, 44, 45, 46, 47, 48, 49, 50, 51, 52, 53, 54, 55] (by decide +kernel) (by decide +kernel)
set_option maxRecDepth 20000 in
theorem gX7_set_X7_becomes : GoodIn wsX7_set (wsV RX7 149 RX7 yX7_becomes wsX7_becomes) := goodIn_app (goodIn_of _ (by decide +kernel)) ggX7_set_X7_becomes
theorem dX7_set_0 : decode cX7_set 0 = .ok (.aload_n 0, 1) := by decide +kernel
theorem dX7_set_1 : decode cX7_set 1 = .ok (.iload_n 1, 1) := by decide +kernel
theorem dX7_set_2 : decode cX7_set 2 = .ok (.invokevirtual 133, 3) := by decide +kernel
theorem dX7_set_5 : decode cX7_set 5 = .ok (.ifCond .eq 28, 3) := by decide +kernel
theorem dX7_set_8 : decode cX7_set 8 = .ok (.iload_n 2, 1) := by decide +kernel
theorem dX7_set_9 : decode cX7_set 9 = .ok (.iload_n 3, 1) := by decide +kernel
theorem dX7_set_10 : decode cX7_set 10 = .ok (.invokestatic 96, 3) := by decide +kernel
theorem dX7_set_13 : decode cX7_set 13 = .ok (.ifCond .eq 20, 3) := by decide +kernel
theorem dX7_set_16 : decode cX7_set 16 = .ok (.aload_n 0, 1) := by decide +kernel
theorem dX7_set_17 : decode cX7_set 17 = .ok (.bipush 6, 2) := by decide +kernel
theorem dX7_set_19 : decode cX7_set 19 = .ok (.bipush 7, 2) := by decide +kernel
theorem dX7_set_21 : decode cX7_set 21 = .ok (.iload_n 1, 1) := by decide +kernel
theorem dX7_set_22 : decode cX7_set 22 = .ok (.imul, 1) := by decide +kernel
theorem dX7_set_23 : decode cX7_set 23 = .ok (.iadd, 1) := by decide +kernel
theorem dX7_set_24 : decode cX7_set 24 = .ok (.iload_n 2, 1) := by decide +kernel
theorem dX7_set_25 : decode cX7_set 25 = .ok (.iadd, 1) := by decide +kernel
theorem dX7_set_26 : decode cX7_set 26 = .ok (.iload_n 3, 1) := by decide +kernel
theorem dX7_set_27 : decode cX7_set 27 = .ok (.invokevirtual 149, 3) := by decide +kernel
theorem dX7_set_30 : decode cX7_set 30 = .ok (.goto 5, 3) := by decide +kernel
theorem dX7_set_33 : decode cX7_set 33 = .ok (.ldc 100, 2) := by decide +kernel
theorem dX7_set_35 : decode cX7_set 35 = .ok (.ireturn, 1) := by decide +kernel
set_option maxRecDepth 20000 in
theorem ggX7_falls_X7_sets : GoodIn wsX7_falls wsX7_sets := goodIn_r _ [5, 6, 7, 8, 9, 10, 11, 12, 13, 14, 15, 16, 17, 18, 19, 20, 21, 22, 23, 24, 25, 26, 27, 28, 29, 30, 31, 32, 33, 34, 35, 36, 37, 38, 39] (by decide +kernel) (by decide +kernel)
set_option maxRecDepth 20000 in
theorem gX7_falls_X7_sets : GoodIn wsX7_falls (wsV RX7 80 RX7 yX7_sets wsX7_sets) := goodIn_app (goodIn_of _ (by decide +kernel)) ggX7_falls_X7_sets
theorem dX7_falls_0 : decode cX7_falls 0 = .ok (.aload_n 0, 1) := by decide +kernel
theorem dX7_falls_1 : decode cX7_falls 1 = .ok (.iload_n 1, 1) := by decide +kernel
theorem dX7_falls_2 : decode cX7_falls 2 = .ok (.bipush 6, 2) := by decide +kernel
theorem dX7_falls_4 : decode cX7_falls 4 = .ok (.iconst 1, 1) := by decide +kernel
theorem dX7_falls_5 : decode cX7_falls 5 = .ok (.invokevirtual 80, 3) := by decide +kernel
theorem dX7_falls_8 : decode cX7_falls 8 = .ok (.aload_n 0, 1) := by decide +kernel
theorem dX7_falls_9 : decode cX7_falls 9 = .ok (.iload_n 1, 1) := by decide +kernel
theorem dX7_falls_10 : decode cX7_falls 10 = .ok (.iconst 5, 1) := by decide +kernel
theorem dX7_falls_11 : decode cX7_falls 11 = .ok (.iconst 0, 1) := by decide +kernel
theorem dX7_falls_12 : decode cX7_falls 12 = .ok (.invokevirtual 80, 3) := by decide +kernel
theorem dX7_falls_15 : decode cX7_falls 15 = .ok (.return_, 1) := by decide +kernel
set_option maxRecDepth 20000 in
theorem ggX7_fells_X7_isHouse : GoodIn wsX7_fells wsX7_isHouse := goodIn_r _ [7, 8, 9, 10, 6, 11, 35, 36, 37, 38, 39, 40, 41, 42, 43, 44, 45, 46, 47, 48, 49, 50, 51, 52, 53, 54, 55, 56, 57, 58, 59, 60, 61, 62, 63, 64, 65, 66, 67] (by decide +kernel) (by decide +kernel)
set_option maxRecDepth 20000 in
theorem gX7_fells_X7_isHouse : GoodIn wsX7_fells (wsV RX7 133 RX7 yX7_isHouse wsX7_isHouse) := goodIn_app (goodIn_of _ (by decide +kernel)) ggX7_fells_X7_isHouse
set_option maxRecDepth 20000 in
theorem ggX7_fells_X7_stands : GoodIn wsX7_fells wsX7_stands := goodIn_r _ [15, 16, 17, 18, 6, 19, 8, 35, 36, 37, 38, 39, 40, 41, 42, 43, 44, 45, 46, 47, 48, 49, 50, 51, 52, 53, 54, 55, 56, 57, 58, 59, 60, 61, 62, 63, 64, 65, 66, 67] (by decide +kernel) (by decide +kernel)
set_option maxRecDepth 20000 in
theorem gX7_fells_X7_stands : GoodIn wsX7_fells (wsV RX7 119 RX7 yX7_stands wsX7_stands) := goodIn_app (goodIn_of _ (by decide +kernel)) ggX7_fells_X7_stands
set_option maxRecDepth 20000 in
theorem ggX7_fells_X7_falls : GoodIn wsX7_fells wsX7_falls := goodIn_r _ [23, 24, 25, 26, 6, 27, 8, 35, 36, 37, 38, 39, 40, 41, 42, 43, 44, 45, 46, 47, 48, 49, 50, 51, 52, 53, 54, 55, 56, 57, 58, 59, 60, 61, 62, 63, 64, 65, 66, 67] (by decide +kernel) (by decide +kernel)
set_option maxRecDepth 20000 in
theorem gX7_fells_X7_falls : GoodIn wsX7_fells (wsV RX7 153 RX7 yX7_falls wsX7_falls) := goodIn_app (goodIn_of _ (by decide +kernel)) ggX7_fells_X7_falls
set_option maxRecDepth 20000 in
theorem ggX7_fells_X7_allStanding : GoodIn wsX7_fells wsX7_allStanding := goodIn_r _ [31, 8, 12, 13, 14, 6, 15, 16, 17, 18, 19, 35, 36, 37, 38, 39, 40, 41, 42, 43, 44, 45, 46, 47, 48, 49, 50, 51, 52, 53, 54, 55, 56, 57, 58, 59, 60, 61, 62, 63, 64, 65, 66, 67] (by decide +kernel) (by decide +kernel)
set_option maxRecDepth 20000 in
theorem gX7_fells_X7_allStanding : GoodIn wsX7_fells (wsV RX7 123 RX7 yX7_allStanding wsX7_allStanding) := goodIn_app (goodIn_of _ (by decide +kernel)) ggX7_fells_X7_allStanding
set_option maxRecDepth 20000 in
theorem ggX7_fells_X7_manyIn : GoodIn wsX7_fells wsX7_manyIn := goodIn_r _ [34] (by decide +kernel) (by decide +kernel)
set_option maxRecDepth 20000 in
theorem gX7_fells_X7_manyIn : GoodIn wsX7_fells (va_wsS RX7 157 yX7_manyIn wsX7_manyIn) := goodIn_app (goodIn_of _ (by decide +kernel)) ggX7_fells_X7_manyIn
theorem dX7_fells_0 : decode cX7_fells 0 = .ok (.aload_n 0, 1) := by decide +kernel
theorem dX7_fells_1 : decode cX7_fells 1 = .ok (.iload_n 1, 1) := by decide +kernel
theorem dX7_fells_2 : decode cX7_fells 2 = .ok (.invokevirtual 133, 3) := by decide +kernel
theorem dX7_fells_5 : decode cX7_fells 5 = .ok (.ifCond .ne 6, 3) := by decide +kernel
theorem dX7_fells_8 : decode cX7_fells 8 = .ok (.ldc 100, 2) := by decide +kernel
theorem dX7_fells_10 : decode cX7_fells 10 = .ok (.ireturn, 1) := by decide +kernel
theorem dX7_fells_11 : decode cX7_fells 11 = .ok (.aload_n 0, 1) := by decide +kernel
theorem dX7_fells_12 : decode cX7_fells 12 = .ok (.iload_n 1, 1) := by decide +kernel
theorem dX7_fells_13 : decode cX7_fells 13 = .ok (.invokevirtual 119, 3) := by decide +kernel
theorem dX7_fells_16 : decode cX7_fells 16 = .ok (.ifCond .ne 6, 3) := by decide +kernel
theorem dX7_fells_19 : decode cX7_fells 19 = .ok (.ldc 152, 2) := by decide +kernel
theorem dX7_fells_21 : decode cX7_fells 21 = .ok (.ireturn, 1) := by decide +kernel
theorem dX7_fells_22 : decode cX7_fells 22 = .ok (.aload_n 0, 1) := by decide +kernel
theorem dX7_fells_23 : decode cX7_fells 23 = .ok (.iload_n 1, 1) := by decide +kernel
theorem dX7_fells_24 : decode cX7_fells 24 = .ok (.invokevirtual 153, 3) := by decide +kernel
theorem dX7_fells_27 : decode cX7_fells 27 = .ok (.aload_n 0, 1) := by decide +kernel
theorem dX7_fells_28 : decode cX7_fells 28 = .ok (.invokevirtual 123, 3) := by decide +kernel
theorem dX7_fells_31 : decode cX7_fells 31 = .ok (.invokestatic 157, 3) := by decide +kernel
theorem dX7_fells_34 : decode cX7_fells 34 = .ok (.ireturn, 1) := by decide +kernel
set_option maxRecDepth 20000 in
theorem ggX7_raises_X7_isHouse : GoodIn wsX7_raises wsX7_isHouse := goodIn_r _ [7, 8, 9, 10, 6, 11, 31, 32, 33, 34, 35, 36, 37, 38, 39, 40, 41, 42, 43, 44, 45, 46, 47, 48, 49, 50, 51, 52, 53, 54, 55, 56, 57, 58, 59, 60, 61, 62, 63] (by decide +kernel) (by decide +kernel)
set_option maxRecDepth 20000 in
theorem gX7_raises_X7_isHouse : GoodIn wsX7_raises (wsV RX7 133 RX7 yX7_isHouse wsX7_isHouse) := goodIn_app (goodIn_of _ (by decide +kernel)) ggX7_raises_X7_isHouse
set_option maxRecDepth 20000 in
theorem ggX7_raises_X7_stands : GoodIn wsX7_raises wsX7_stands := goodIn_r _ [15, 16, 17, 18, 6, 19, 8, 31, 32, 33, 34, 35, 36, 37, 38, 39, 40, 41, 42, 43, 44, 45, 46, 47, 48, 49, 50, 51, 52, 53, 54, 55, 56, 57, 58, 59, 60, 61, 62, 63] (by decide +kernel) (by decide +kernel)
set_option maxRecDepth 20000 in
theorem gX7_raises_X7_stands : GoodIn wsX7_raises (wsV RX7 119 RX7 yX7_stands wsX7_stands) := goodIn_app (goodIn_of _ (by decide +kernel)) ggX7_raises_X7_stands
set_option maxRecDepth 20000 in
theorem ggX7_raises_X7_sets : GoodIn wsX7_raises wsX7_sets := goodIn_r _ [23, 8, 31, 32, 33, 34, 35, 36, 37, 38, 39, 40, 41, 42, 43, 44, 45, 46, 47, 48, 49, 50, 51, 52, 53, 54, 55, 56, 57, 58, 59, 60, 61, 62, 63] (by decide +kernel) (by decide +kernel)
set_option maxRecDepth 20000 in
theorem gX7_raises_X7_sets : GoodIn wsX7_raises (wsV RX7 80 RX7 yX7_sets wsX7_sets) := goodIn_app (goodIn_of _ (by decide +kernel)) ggX7_raises_X7_sets
set_option maxRecDepth 20000 in
theorem ggX7_raises_X7_allStanding : GoodIn wsX7_raises wsX7_allStanding := goodIn_r _ [27, 8, 12, 13, 14, 6, 15, 16, 17, 18, 19, 31, 32, 33, 34, 35, 36, 37, 38, 39, 40, 41, 42, 43, 44, 45, 46, 47, 48, 49, 50, 51, 52, 53, 54, 55, 56, 57, 58, 59, 60, 61, 62, 63] (by decide +kernel) (by decide +kernel)
set_option maxRecDepth 20000 in
theorem gX7_raises_X7_allStanding : GoodIn wsX7_raises (wsV RX7 123 RX7 yX7_allStanding wsX7_allStanding) := goodIn_app (goodIn_of _ (by decide +kernel)) ggX7_raises_X7_allStanding
set_option maxRecDepth 20000 in
theorem ggX7_raises_X7_manyIn : GoodIn wsX7_raises wsX7_manyIn := goodIn_r _ [30] (by decide +kernel) (by decide +kernel)
set_option maxRecDepth 20000 in
theorem gX7_raises_X7_manyIn : GoodIn wsX7_raises (va_wsS RX7 157 yX7_manyIn wsX7_manyIn) := goodIn_app (goodIn_of _ (by decide +kernel)) ggX7_raises_X7_manyIn
theorem dX7_raises_0 : decode cX7_raises 0 = .ok (.aload_n 0, 1) := by decide +kernel
theorem dX7_raises_1 : decode cX7_raises 1 = .ok (.iload_n 1, 1) := by decide +kernel
theorem dX7_raises_2 : decode cX7_raises 2 = .ok (.invokevirtual 133, 3) := by decide +kernel
theorem dX7_raises_5 : decode cX7_raises 5 = .ok (.ifCond .ne 6, 3) := by decide +kernel
theorem dX7_raises_8 : decode cX7_raises 8 = .ok (.ldc 100, 2) := by decide +kernel
theorem dX7_raises_10 : decode cX7_raises 10 = .ok (.ireturn, 1) := by decide +kernel
theorem dX7_raises_11 : decode cX7_raises 11 = .ok (.aload_n 0, 1) := by decide +kernel
theorem dX7_raises_12 : decode cX7_raises 12 = .ok (.iload_n 1, 1) := by decide +kernel
theorem dX7_raises_13 : decode cX7_raises 13 = .ok (.invokevirtual 119, 3) := by decide +kernel
theorem dX7_raises_16 : decode cX7_raises 16 = .ok (.ifCond .eq 6, 3) := by decide +kernel
theorem dX7_raises_19 : decode cX7_raises 19 = .ok (.ldc 152, 2) := by decide +kernel
theorem dX7_raises_21 : decode cX7_raises 21 = .ok (.ireturn, 1) := by decide +kernel
theorem dX7_raises_22 : decode cX7_raises 22 = .ok (.aload_n 0, 1) := by decide +kernel
theorem dX7_raises_23 : decode cX7_raises 23 = .ok (.iload_n 1, 1) := by decide +kernel
theorem dX7_raises_24 : decode cX7_raises 24 = .ok (.bipush 6, 2) := by decide +kernel
theorem dX7_raises_26 : decode cX7_raises 26 = .ok (.iconst 0, 1) := by decide +kernel
theorem dX7_raises_27 : decode cX7_raises 27 = .ok (.invokevirtual 80, 3) := by decide +kernel
theorem dX7_raises_30 : decode cX7_raises 30 = .ok (.aload_n 0, 1) := by decide +kernel
theorem dX7_raises_31 : decode cX7_raises 31 = .ok (.iload_n 1, 1) := by decide +kernel
theorem dX7_raises_32 : decode cX7_raises 32 = .ok (.iconst 2, 1) := by decide +kernel
theorem dX7_raises_33 : decode cX7_raises 33 = .ok (.iconst 0, 1) := by decide +kernel
theorem dX7_raises_34 : decode cX7_raises 34 = .ok (.invokevirtual 80, 3) := by decide +kernel
theorem dX7_raises_37 : decode cX7_raises 37 = .ok (.aload_n 0, 1) := by decide +kernel
theorem dX7_raises_38 : decode cX7_raises 38 = .ok (.iload_n 1, 1) := by decide +kernel
theorem dX7_raises_39 : decode cX7_raises 39 = .ok (.iconst 4, 1) := by decide +kernel
theorem dX7_raises_40 : decode cX7_raises 40 = .ok (.iconst 0, 1) := by decide +kernel
theorem dX7_raises_41 : decode cX7_raises 41 = .ok (.invokevirtual 80, 3) := by decide +kernel
theorem dX7_raises_44 : decode cX7_raises 44 = .ok (.aload_n 0, 1) := by decide +kernel
theorem dX7_raises_45 : decode cX7_raises 45 = .ok (.invokevirtual 123, 3) := by decide +kernel
theorem dX7_raises_48 : decode cX7_raises 48 = .ok (.invokestatic 157, 3) := by decide +kernel
theorem dX7_raises_51 : decode cX7_raises 51 = .ok (.ireturn, 1) := by decide +kernel
set_option maxRecDepth 20000 in
theorem ggX7_snow_X7_isIn : GoodIn wsX7_snow wsX7_isIn := goodIn_r _ [7] (by decide +kernel) (by decide +kernel)
set_option maxRecDepth 20000 in
theorem gX7_snow_X7_isIn : GoodIn wsX7_snow (va_wsS RX7 71 yX7_isIn wsX7_isIn) := goodIn_app (goodIn_of _ (by decide +kernel)) ggX7_snow_X7_isIn
set_option maxRecDepth 20000 in
theorem ggX7_snow_X7_becomes : GoodIn wsX7_snow wsX7_becomes := goodIn_r _ [11, 12, 13, 14, 15, 16, 17, 18, 19, 20, 21, 22, 23, 24, 25, 26, 27, 28, 29, 30, 31, 32, 33, 34, 35, 36, 37, 38, 39, 40, 41, 42, 43, 44, 45] (by decide +kernel) (by decide +kernel)
set_option maxRecDepth 20000 in
theorem gX7_snow_X7_becomes : GoodIn wsX7_snow (wsV RX7 149 RX7 yX7_becomes wsX7_becomes) := goodIn_app (goodIn_of _ (by decide +kernel)) ggX7_snow_X7_becomes
theorem dX7_snow_0 : decode cX7_snow 0 = .ok (.iload_n 1, 1) := by decide +kernel
theorem dX7_snow_1 : decode cX7_snow 1 = .ok (.i2l, 1) := by decide +kernel
theorem dX7_snow_2 : decode cX7_snow 2 = .ok (.ldc2_w 160, 3) := by decide +kernel
theorem dX7_snow_5 : decode cX7_snow 5 = .ok (.ldc2_w 162, 3) := by decide +kernel
theorem dX7_snow_8 : decode cX7_snow 8 = .ok (.invokestatic 71, 3) := by decide +kernel
theorem dX7_snow_11 : decode cX7_snow 11 = .ok (.ifCond .eq 12, 3) := by decide +kernel
theorem dX7_snow_14 : decode cX7_snow 14 = .ok (.aload_n 0, 1) := by decide +kernel
theorem dX7_snow_15 : decode cX7_snow 15 = .ok (.iconst 4, 1) := by decide +kernel
theorem dX7_snow_16 : decode cX7_snow 16 = .ok (.iload_n 1, 1) := by decide +kernel
theorem dX7_snow_17 : decode cX7_snow 17 = .ok (.invokevirtual 149, 3) := by decide +kernel
theorem dX7_snow_20 : decode cX7_snow 20 = .ok (.goto 5, 3) := by decide +kernel
theorem dX7_snow_23 : decode cX7_snow 23 = .ok (.ldc 100, 2) := by decide +kernel
theorem dX7_snow_25 : decode cX7_snow 25 = .ok (.ireturn, 1) := by decide +kernel
set_option maxRecDepth 20000 in
theorem ggX7_deal_X7_isIn : GoodIn wsX7_deal wsX7_isIn := goodIn_r _ [7] (by decide +kernel) (by decide +kernel)
set_option maxRecDepth 20000 in
theorem gX7_deal_X7_isIn : GoodIn wsX7_deal (va_wsS RX7 71 yX7_isIn wsX7_isIn) := goodIn_app (goodIn_of _ (by decide +kernel)) ggX7_deal_X7_isIn
set_option maxRecDepth 20000 in
theorem ggX7_deal_X7_drawn : GoodIn wsX7_deal wsX7_drawn := goodIn_r _ [11, 3, 12, 21, 22, 23, 24, 25, 26, 27, 28, 29, 30, 31, 32, 33, 34, 35, 36, 37, 38, 39, 40, 41, 42, 43, 44, 45, 46, 47, 48, 49, 50, 51, 52, 53] (by decide +kernel) (by decide +kernel)
set_option maxRecDepth 20000 in
theorem gX7_deal_X7_drawn : GoodIn wsX7_deal (wsV RX7 164 RX7 yX7_drawn wsX7_drawn) := goodIn_app (goodIn_of _ (by decide +kernel)) ggX7_deal_X7_drawn
set_option maxRecDepth 20000 in
theorem ggX7_deal_X7_comes : GoodIn wsX7_deal wsX7_comes := goodIn_r _ [16, 3, 17, 18, 19, 6, 20, 21, 22, 23, 24, 25, 26, 27, 28, 29, 30, 31, 32, 33, 34, 35, 36, 37, 38, 39, 40, 41, 42, 43, 44, 45, 46, 47, 48, 49, 50, 51, 52, 53] (by decide +kernel) (by decide +kernel)
set_option maxRecDepth 20000 in
theorem gX7_deal_X7_comes : GoodIn wsX7_deal (wsV RX7 102 RX7 yX7_comes wsX7_comes) := goodIn_app (goodIn_of _ (by decide +kernel)) ggX7_deal_X7_comes
theorem dX7_deal_0 : decode cX7_deal 0 = .ok (.iload_n 1, 1) := by decide +kernel
theorem dX7_deal_1 : decode cX7_deal 1 = .ok (.i2l, 1) := by decide +kernel
theorem dX7_deal_2 : decode cX7_deal 2 = .ok (.lconst 1, 1) := by decide +kernel
theorem dX7_deal_3 : decode cX7_deal 3 = .ok (.ldc2_w 92, 3) := by decide +kernel
theorem dX7_deal_6 : decode cX7_deal 6 = .ok (.invokestatic 71, 3) := by decide +kernel
theorem dX7_deal_9 : decode cX7_deal 9 = .ok (.ifCond .ne 6, 3) := by decide +kernel
theorem dX7_deal_12 : decode cX7_deal 12 = .ok (.ldc 100, 2) := by decide +kernel
theorem dX7_deal_14 : decode cX7_deal 14 = .ok (.ireturn, 1) := by decide +kernel
theorem dX7_deal_15 : decode cX7_deal 15 = .ok (.iconst 0, 1) := by decide +kernel
theorem dX7_deal_16 : decode cX7_deal 16 = .ok (.istore_n 2, 1) := by decide +kernel
theorem dX7_deal_17 : decode cX7_deal 17 = .ok (.iload_n 2, 1) := by decide +kernel
theorem dX7_deal_18 : decode cX7_deal 18 = .ok (.iload_n 1, 1) := by decide +kernel
theorem dX7_deal_19 : decode cX7_deal 19 = .ok (.if_icmp .ge 67, 3) := by decide +kernel
theorem dX7_deal_22 : decode cX7_deal 22 = .ok (.aload_n 0, 1) := by decide +kernel
theorem dX7_deal_23 : decode cX7_deal 23 = .ok (.getfield 7, 3) := by decide +kernel
theorem dX7_deal_26 : decode cX7_deal 26 = .ok (.iconst 0, 1) := by decide +kernel
theorem dX7_deal_27 : decode cX7_deal 27 = .ok (.iaload, 1) := by decide +kernel
theorem dX7_deal_28 : decode cX7_deal 28 = .ok (.bipush 9, 2) := by decide +kernel
theorem dX7_deal_30 : decode cX7_deal 30 = .ok (.if_icmp .ge 56, 3) := by decide +kernel
theorem dX7_deal_33 : decode cX7_deal 33 = .ok (.aload_n 0, 1) := by decide +kernel
theorem dX7_deal_34 : decode cX7_deal 34 = .ok (.invokevirtual 164, 3) := by decide +kernel
theorem dX7_deal_37 : decode cX7_deal 37 = .ok (.bipush 6, 2) := by decide +kernel
theorem dX7_deal_39 : decode cX7_deal 39 = .ok (.irem, 1) := by decide +kernel
theorem dX7_deal_40 : decode cX7_deal 40 = .ok (.istore_n 3, 1) := by decide +kernel
theorem dX7_deal_41 : decode cX7_deal 41 = .ok (.iconst 1, 1) := by decide +kernel
theorem dX7_deal_42 : decode cX7_deal 42 = .ok (.aload_n 0, 1) := by decide +kernel
theorem dX7_deal_43 : decode cX7_deal 43 = .ok (.invokevirtual 164, 3) := by decide +kernel
theorem dX7_deal_46 : decode cX7_deal 46 = .ok (.bipush 60, 2) := by decide +kernel
theorem dX7_deal_48 : decode cX7_deal 48 = .ok (.irem, 1) := by decide +kernel
theorem dX7_deal_49 : decode cX7_deal 49 = .ok (.iadd, 1) := by decide +kernel
theorem dX7_deal_50 : decode cX7_deal 50 = .ok (.istore 4, 2) := by decide +kernel
theorem dX7_deal_52 : decode cX7_deal 52 = .ok (.aload_n 0, 1) := by decide +kernel
theorem dX7_deal_53 : decode cX7_deal 53 = .ok (.invokevirtual 164, 3) := by decide +kernel
theorem dX7_deal_56 : decode cX7_deal 56 = .ok (.bipush 41, 2) := by decide +kernel
theorem dX7_deal_58 : decode cX7_deal 58 = .ok (.irem, 1) := by decide +kernel
theorem dX7_deal_59 : decode cX7_deal 59 = .ok (.bipush 20, 2) := by decide +kernel
theorem dX7_deal_61 : decode cX7_deal 61 = .ok (.isub, 1) := by decide +kernel
theorem dX7_deal_62 : decode cX7_deal 62 = .ok (.istore 5, 2) := by decide +kernel
theorem dX7_deal_64 : decode cX7_deal 64 = .ok (.aload_n 0, 1) := by decide +kernel
theorem dX7_deal_65 : decode cX7_deal 65 = .ok (.iload_n 3, 1) := by decide +kernel
theorem dX7_deal_66 : decode cX7_deal 66 = .ok (.iload 4, 2) := by decide +kernel
theorem dX7_deal_68 : decode cX7_deal 68 = .ok (.iload 5, 2) := by decide +kernel
theorem dX7_deal_70 : decode cX7_deal 70 = .ok (.aload_n 0, 1) := by decide +kernel
theorem dX7_deal_71 : decode cX7_deal 71 = .ok (.invokevirtual 164, 3) := by decide +kernel
theorem dX7_deal_74 : decode cX7_deal 74 = .ok (.bipush 60, 2) := by decide +kernel
theorem dX7_deal_76 : decode cX7_deal 76 = .ok (.irem, 1) := by decide +kernel
theorem dX7_deal_77 : decode cX7_deal 77 = .ok (.invokevirtual 102, 3) := by decide +kernel
theorem dX7_deal_80 : decode cX7_deal 80 = .ok (.iinc 2 1, 3) := by decide +kernel
theorem dX7_deal_83 : decode cX7_deal 83 = .ok (.goto (-66), 3) := by decide +kernel
theorem dX7_deal_86 : decode cX7_deal 86 = .ok (.iload_n 2, 1) := by decide +kernel
theorem dX7_deal_87 : decode cX7_deal 87 = .ok (.ireturn, 1) := by decide +kernel
set_option maxRecDepth 20000 in
theorem ggX7_seed_X7_becomes : GoodIn wsX7_seed wsX7_becomes := goodIn_r _ [5, 6, 7, 8, 9, 10, 11, 12, 13, 14, 15, 16, 17, 18, 19, 20, 21, 22, 23, 24, 25, 26, 27, 28, 29, 30, 31, 32, 33, 34, 35, 36, 37, 38, 39] (by decide +kernel) (by decide +kernel)
set_option maxRecDepth 20000 in
theorem gX7_seed_X7_becomes : GoodIn wsX7_seed (wsV RX7 149 RX7 yX7_becomes wsX7_becomes) := goodIn_app (goodIn_of _ (by decide +kernel)) ggX7_seed_X7_becomes
theorem dX7_seed_0 : decode cX7_seed 0 = .ok (.aload_n 0, 1) := by decide +kernel
theorem dX7_seed_1 : decode cX7_seed 1 = .ok (.iconst 5, 1) := by decide +kernel
theorem dX7_seed_2 : decode cX7_seed 2 = .ok (.iload_n 1, 1) := by decide +kernel
theorem dX7_seed_3 : decode cX7_seed 3 = .ok (.invokevirtual 149, 3) := by decide +kernel
theorem dX7_seed_6 : decode cX7_seed 6 = .ok (.ireturn, 1) := by decide +kernel
set_option maxRecDepth 20000 in
theorem ggX7_fallsWith_X7_of : GoodIn wsX7_fallsWith wsX7_of := goodIn_r _ [5, 6, 18, 19, 20, 21, 22, 23, 24, 25, 26, 27, 28, 29, 30, 31, 32, 33, 34, 35, 36, 37, 38, 39, 40, 41, 42, 43, 44, 45, 46, 47, 48, 49, 50] (by decide +kernel) (by decide +kernel)
set_option maxRecDepth 20000 in
theorem gX7_fallsWith_X7_of : GoodIn wsX7_fallsWith (wsV RX7 75 RX7 yX7_of wsX7_of) := goodIn_app (goodIn_of _ (by decide +kernel)) ggX7_fallsWith_X7_of
set_option maxRecDepth 20000 in
theorem ggX7_fallsWith_X7_off : GoodIn wsX7_fallsWith wsX7_off := goodIn_r _ [9] (by decide +kernel) (by decide +kernel)
set_option maxRecDepth 20000 in
theorem gX7_fallsWith_X7_off : GoodIn wsX7_fallsWith (va_wsS RX7 106 yX7_off wsX7_off) := goodIn_app (goodIn_of _ (by decide +kernel)) ggX7_fallsWith_X7_off
set_option maxRecDepth 20000 in
theorem ggX7_fallsWith_X7_nextOf : GoodIn wsX7_fallsWith wsX7_nextOf := goodIn_r _ [13, 6, 18, 19, 20, 21, 22, 23, 24, 25, 26, 27, 28, 29, 30, 31, 32, 33, 34, 35, 36, 37, 38, 39, 40, 41, 42, 43, 44, 45, 46, 47, 48, 49, 50] (by decide +kernel) (by decide +kernel)
set_option maxRecDepth 20000 in
theorem gX7_fallsWith_X7_nextOf : GoodIn wsX7_fallsWith (wsV RX7 127 RX7 yX7_nextOf wsX7_nextOf) := goodIn_app (goodIn_of _ (by decide +kernel)) ggX7_fallsWith_X7_nextOf
set_option maxRecDepth 20000 in
theorem ggX7_fallsWith_X7_stands : GoodIn wsX7_fallsWith wsX7_stands := goodIn_r _ [17, 1, 2, 3, 4, 5, 6, 18, 19, 20, 21, 22, 23, 24, 25, 26, 27, 28, 29, 30, 31, 32, 33, 34, 35, 36, 37, 38, 39, 40, 41, 42, 43, 44, 45, 46, 47, 48, 49, 50] (by decide +kernel) (by decide +kernel)
set_option maxRecDepth 20000 in
theorem gX7_fallsWith_X7_stands : GoodIn wsX7_fallsWith (wsV RX7 119 RX7 yX7_stands wsX7_stands) := goodIn_app (goodIn_of _ (by decide +kernel)) ggX7_fallsWith_X7_stands
theorem dX7_fallsWith_0 : decode cX7_fallsWith 0 = .ok (.aload_n 0, 1) := by decide +kernel
theorem dX7_fallsWith_1 : decode cX7_fallsWith 1 = .ok (.iload_n 1, 1) := by decide +kernel
theorem dX7_fallsWith_2 : decode cX7_fallsWith 2 = .ok (.iconst 2, 1) := by decide +kernel
theorem dX7_fallsWith_3 : decode cX7_fallsWith 3 = .ok (.invokevirtual 75, 3) := by decide +kernel
theorem dX7_fallsWith_6 : decode cX7_fallsWith 6 = .ok (.istore_n 3, 1) := by decide +kernel
theorem dX7_fallsWith_7 : decode cX7_fallsWith 7 = .ok (.iload_n 3, 1) := by decide +kernel
theorem dX7_fallsWith_8 : decode cX7_fallsWith 8 = .ok (.iconst 0, 1) := by decide +kernel
theorem dX7_fallsWith_9 : decode cX7_fallsWith 9 = .ok (.invokestatic 106, 3) := by decide +kernel
theorem dX7_fallsWith_12 : decode cX7_fallsWith 12 = .ok (.bipush 20, 2) := by decide +kernel
theorem dX7_fallsWith_14 : decode cX7_fallsWith 14 = .ok (.if_icmp .ge 5, 3) := by decide +kernel
theorem dX7_fallsWith_17 : decode cX7_fallsWith 17 = .ok (.iconst 0, 1) := by decide +kernel
theorem dX7_fallsWith_18 : decode cX7_fallsWith 18 = .ok (.ireturn, 1) := by decide +kernel
theorem dX7_fallsWith_19 : decode cX7_fallsWith 19 = .ok (.aload_n 0, 1) := by decide +kernel
theorem dX7_fallsWith_20 : decode cX7_fallsWith 20 = .ok (.iload_n 1, 1) := by decide +kernel
theorem dX7_fallsWith_21 : decode cX7_fallsWith 21 = .ok (.iload_n 3, 1) := by decide +kernel
theorem dX7_fallsWith_22 : decode cX7_fallsWith 22 = .ok (.ifCond .le 7, 3) := by decide +kernel
theorem dX7_fallsWith_25 : decode cX7_fallsWith 25 = .ok (.iconst 1, 1) := by decide +kernel
theorem dX7_fallsWith_26 : decode cX7_fallsWith 26 = .ok (.goto 4, 3) := by decide +kernel
theorem dX7_fallsWith_29 : decode cX7_fallsWith 29 = .ok (.iconst (-1), 1) := by decide +kernel
theorem dX7_fallsWith_30 : decode cX7_fallsWith 30 = .ok (.iload_n 2, 1) := by decide +kernel
theorem dX7_fallsWith_31 : decode cX7_fallsWith 31 = .ok (.invokevirtual 127, 3) := by decide +kernel
theorem dX7_fallsWith_34 : decode cX7_fallsWith 34 = .ok (.istore 4, 2) := by decide +kernel
theorem dX7_fallsWith_36 : decode cX7_fallsWith 36 = .ok (.iload 4, 2) := by decide +kernel
theorem dX7_fallsWith_38 : decode cX7_fallsWith 38 = .ok (.ifCond .lt 16, 3) := by decide +kernel
theorem dX7_fallsWith_41 : decode cX7_fallsWith 41 = .ok (.aload_n 0, 1) := by decide +kernel
theorem dX7_fallsWith_42 : decode cX7_fallsWith 42 = .ok (.iload 4, 2) := by decide +kernel
theorem dX7_fallsWith_44 : decode cX7_fallsWith 44 = .ok (.invokevirtual 119, 3) := by decide +kernel
theorem dX7_fallsWith_47 : decode cX7_fallsWith 47 = .ok (.ifCond .ne 7, 3) := by decide +kernel
theorem dX7_fallsWith_50 : decode cX7_fallsWith 50 = .ok (.iconst 1, 1) := by decide +kernel
theorem dX7_fallsWith_51 : decode cX7_fallsWith 51 = .ok (.goto 4, 3) := by decide +kernel
theorem dX7_fallsWith_54 : decode cX7_fallsWith 54 = .ok (.iconst 0, 1) := by decide +kernel
theorem dX7_fallsWith_55 : decode cX7_fallsWith 55 = .ok (.ireturn, 1) := by decide +kernel
set_option maxRecDepth 20000 in
theorem ggX7_goesOn_X7_allStanding : GoodIn wsX7_goesOn wsX7_allStanding := goodIn_r _ [8, 1, 9, 10, 11, 7, 12, 13, 14, 15, 16, 68, 69, 70, 71, 72, 73, 74, 75, 76, 77, 78, 79, 80, 81, 82, 83, 84, 85, 86, 87, 88, 89, 90, 91, 92, 93, 94, 95, 96, 97, 98, 99, 100] (by decide +kernel) (by decide +kernel)
set_option maxRecDepth 20000 in
theorem gX7_goesOn_X7_allStanding : GoodIn wsX7_goesOn (wsV RX7 123 RX7 yX7_allStanding wsX7_allStanding) := goodIn_app (goodIn_of _ (by decide +kernel)) ggX7_goesOn_X7_allStanding
set_option maxRecDepth 20000 in
theorem ggX7_goesOn_X7_thrust : GoodIn wsX7_goesOn wsX7_thrust := goodIn_r _ [20, 1, 9, 10, 11, 7, 12, 13, 14, 15, 16, 4, 5, 6, 8, 21, 22, 23, 24, 25, 26, 27, 28, 29, 30, 31, 32, 33, 34, 35, 36, 37, 38, 39, 40, 41, 42, 43, 44, 45, 46, 47, 48, 49, 50, 51, 68, 69, 70, 71, 72, 73, 74, 75, 76, 77, 78, 79, 80, 81, 82, 83, 84, 85, 86, 87, 88, 89, 90, 91, 92, 93, 94, 95, 96, 97, 98, 99, 100] (by decide +kernel) (by decide +kernel)
set_option maxRecDepth 20000 in
theorem gX7_goesOn_X7_thrust : GoodIn wsX7_goesOn (wsV RX7 139 RX7 yX7_thrust wsX7_thrust) := goodIn_app (goodIn_of _ (by decide +kernel)) ggX7_goesOn_X7_thrust
set_option maxRecDepth 20000 in
theorem ggX7_goesOn_X7_bears : GoodIn wsX7_goesOn wsX7_bears := goodIn_r _ [55, 13, 14, 15, 7, 16, 1, 68, 69, 70, 71, 72, 73, 74, 75, 76, 77, 78, 79, 80, 81, 82, 83, 84, 85, 86, 87, 88, 89, 90, 91, 92, 93, 94, 95, 96, 97, 98, 99, 100] (by decide +kernel) (by decide +kernel)
set_option maxRecDepth 20000 in
theorem gX7_goesOn_X7_bears : GoodIn wsX7_goesOn (wsV RX7 136 RX7 yX7_bears wsX7_bears) := goodIn_app (goodIn_of _ (by decide +kernel)) ggX7_goesOn_X7_bears
set_option maxRecDepth 20000 in
theorem ggX7_goesOn_X7_off : GoodIn wsX7_goesOn wsX7_off := goodIn_r _ [32] (by decide +kernel) (by decide +kernel)
set_option maxRecDepth 20000 in
theorem gX7_goesOn_X7_off : GoodIn wsX7_goesOn (va_wsS RX7 106 yX7_off wsX7_off) := goodIn_app (goodIn_of _ (by decide +kernel)) ggX7_goesOn_X7_off
set_option maxRecDepth 20000 in
theorem ggX7_goesOn_X7_stands : GoodIn wsX7_goesOn wsX7_stands := goodIn_r _ [12, 13, 14, 15, 7, 16, 1, 68, 69, 70, 71, 72, 73, 74, 75, 76, 77, 78, 79, 80, 81, 82, 83, 84, 85, 86, 87, 88, 89, 90, 91, 92, 93, 94, 95, 96, 97, 98, 99, 100] (by decide +kernel) (by decide +kernel)
set_option maxRecDepth 20000 in
theorem gX7_goesOn_X7_stands : GoodIn wsX7_goesOn (wsV RX7 119 RX7 yX7_stands wsX7_stands) := goodIn_app (goodIn_of _ (by decide +kernel)) ggX7_goesOn_X7_stands
set_option maxRecDepth 20000 in
theorem ggX7_goesOn_X7_of : GoodIn wsX7_goesOn wsX7_of := goodIn_r _ [16, 1, 68, 69, 70, 71, 72, 73, 74, 75, 76, 77, 78, 79, 80, 81, 82, 83, 84, 85, 86, 87, 88, 89, 90, 91, 92, 93, 94, 95, 96, 97, 98, 99, 100] (by decide +kernel) (by decide +kernel)
set_option maxRecDepth 20000 in
theorem gX7_goesOn_X7_of : GoodIn wsX7_goesOn (wsV RX7 75 RX7 yX7_of wsX7_of) := goodIn_app (goodIn_of _ (by decide +kernel)) ggX7_goesOn_X7_of
set_option maxRecDepth 20000 in
theorem ggX7_goesOn_X7_held : GoodIn wsX7_goesOn wsX7_held := goodIn_r _ [51] (by decide +kernel) (by decide +kernel)
set_option maxRecDepth 20000 in
theorem gX7_goesOn_X7_held : GoodIn wsX7_goesOn (va_wsS RX7 116 yX7_held wsX7_held) := goodIn_app (goodIn_of _ (by decide +kernel)) ggX7_goesOn_X7_held
set_option maxRecDepth 20000 in
theorem ggX7_goesOn_X7_sets : GoodIn wsX7_goesOn wsX7_sets := goodIn_r _ [59, 1, 68, 69, 70, 71, 72, 73, 74, 75, 76, 77, 78, 79, 80, 81, 82, 83, 84, 85, 86, 87, 88, 89, 90, 91, 92, 93, 94, 95, 96, 97, 98, 99, 100] (by decide +kernel) (by decide +kernel)
set_option maxRecDepth 20000 in
theorem gX7_goesOn_X7_sets : GoodIn wsX7_goesOn (wsV RX7 80 RX7 yX7_sets wsX7_sets) := goodIn_app (goodIn_of _ (by decide +kernel)) ggX7_goesOn_X7_sets
set_option maxRecDepth 20000 in
theorem ggX7_goesOn_X7_falls : GoodIn wsX7_goesOn wsX7_falls := goodIn_r _ [63, 56, 57, 58, 7, 59, 1, 68, 69, 70, 71, 72, 73, 74, 75, 76, 77, 78, 79, 80, 81, 82, 83, 84, 85, 86, 87, 88, 89, 90, 91, 92, 93, 94, 95, 96, 97, 98, 99, 100] (by decide +kernel) (by decide +kernel)
set_option maxRecDepth 20000 in
theorem gX7_goesOn_X7_falls : GoodIn wsX7_goesOn (wsV RX7 153 RX7 yX7_falls wsX7_falls) := goodIn_app (goodIn_of _ (by decide +kernel)) ggX7_goesOn_X7_falls
set_option maxRecDepth 20000 in
theorem ggX7_goesOn_X7_fallsWith : GoodIn wsX7_goesOn wsX7_fallsWith := goodIn_r _ [67, 13, 14, 15, 7, 16, 1, 30, 31, 32, 21, 22, 23, 24, 9, 10, 11, 12, 68, 69, 70, 71, 72, 73, 74, 75, 76, 77, 78, 79, 80, 81, 82, 83, 84, 85, 86, 87, 88, 89, 90, 91, 92, 93, 94, 95, 96, 97, 98, 99, 100] (by decide +kernel) (by decide +kernel)
set_option maxRecDepth 20000 in
theorem gX7_goesOn_X7_fallsWith : GoodIn wsX7_goesOn (wsV RX7 167 RX7 yX7_fallsWith wsX7_fallsWith) := goodIn_app (goodIn_of _ (by decide +kernel)) ggX7_goesOn_X7_fallsWith
theorem dX7_goesOn_0 : decode cX7_goesOn 0 = .ok (.aload_n 0, 1) := by decide +kernel
theorem dX7_goesOn_1 : decode cX7_goesOn 1 = .ok (.invokevirtual 123, 3) := by decide +kernel
theorem dX7_goesOn_4 : decode cX7_goesOn 4 = .ok (.istore_n 1, 1) := by decide +kernel
theorem dX7_goesOn_5 : decode cX7_goesOn 5 = .ok (.iconst 0, 1) := by decide +kernel
theorem dX7_goesOn_6 : decode cX7_goesOn 6 = .ok (.istore_n 2, 1) := by decide +kernel
theorem dX7_goesOn_7 : decode cX7_goesOn 7 = .ok (.iconst 0, 1) := by decide +kernel
theorem dX7_goesOn_8 : decode cX7_goesOn 8 = .ok (.istore_n 3, 1) := by decide +kernel
theorem dX7_goesOn_9 : decode cX7_goesOn 9 = .ok (.iload_n 3, 1) := by decide +kernel
theorem dX7_goesOn_10 : decode cX7_goesOn 10 = .ok (.aload_n 0, 1) := by decide +kernel
theorem dX7_goesOn_11 : decode cX7_goesOn 11 = .ok (.getfield 7, 3) := by decide +kernel
theorem dX7_goesOn_14 : decode cX7_goesOn 14 = .ok (.iconst 0, 1) := by decide +kernel
theorem dX7_goesOn_15 : decode cX7_goesOn 15 = .ok (.iaload, 1) := by decide +kernel
theorem dX7_goesOn_16 : decode cX7_goesOn 16 = .ok (.if_icmp .ge 31, 3) := by decide +kernel
theorem dX7_goesOn_19 : decode cX7_goesOn 19 = .ok (.aload_n 0, 1) := by decide +kernel
theorem dX7_goesOn_20 : decode cX7_goesOn 20 = .ok (.getfield 43, 3) := by decide +kernel
theorem dX7_goesOn_23 : decode cX7_goesOn 23 = .ok (.iload_n 3, 1) := by decide +kernel
theorem dX7_goesOn_24 : decode cX7_goesOn 24 = .ok (.aload_n 0, 1) := by decide +kernel
theorem dX7_goesOn_25 : decode cX7_goesOn 25 = .ok (.iload_n 3, 1) := by decide +kernel
theorem dX7_goesOn_26 : decode cX7_goesOn 26 = .ok (.invokevirtual 139, 3) := by decide +kernel
theorem dX7_goesOn_29 : decode cX7_goesOn 29 = .ok (.iastore, 1) := by decide +kernel
theorem dX7_goesOn_30 : decode cX7_goesOn 30 = .ok (.aload_n 0, 1) := by decide +kernel
theorem dX7_goesOn_31 : decode cX7_goesOn 31 = .ok (.getfield 46, 3) := by decide +kernel
theorem dX7_goesOn_34 : decode cX7_goesOn 34 = .ok (.iload_n 3, 1) := by decide +kernel
theorem dX7_goesOn_35 : decode cX7_goesOn 35 = .ok (.aload_n 0, 1) := by decide +kernel
theorem dX7_goesOn_36 : decode cX7_goesOn 36 = .ok (.iload_n 3, 1) := by decide +kernel
theorem dX7_goesOn_37 : decode cX7_goesOn 37 = .ok (.invokevirtual 136, 3) := by decide +kernel
theorem dX7_goesOn_40 : decode cX7_goesOn 40 = .ok (.iastore, 1) := by decide +kernel
theorem dX7_goesOn_41 : decode cX7_goesOn 41 = .ok (.iinc 3 1, 3) := by decide +kernel
theorem dX7_goesOn_44 : decode cX7_goesOn 44 = .ok (.goto (-35), 3) := by decide +kernel
theorem dX7_goesOn_47 : decode cX7_goesOn 47 = .ok (.iconst 0, 1) := by decide +kernel
theorem dX7_goesOn_48 : decode cX7_goesOn 48 = .ok (.istore_n 3, 1) := by decide +kernel
theorem dX7_goesOn_49 : decode cX7_goesOn 49 = .ok (.iload_n 3, 1) := by decide +kernel
theorem dX7_goesOn_50 : decode cX7_goesOn 50 = .ok (.aload_n 0, 1) := by decide +kernel
theorem dX7_goesOn_51 : decode cX7_goesOn 51 = .ok (.getfield 7, 3) := by decide +kernel
theorem dX7_goesOn_54 : decode cX7_goesOn 54 = .ok (.iconst 0, 1) := by decide +kernel
theorem dX7_goesOn_55 : decode cX7_goesOn 55 = .ok (.iaload, 1) := by decide +kernel
theorem dX7_goesOn_56 : decode cX7_goesOn 56 = .ok (.if_icmp .ge 97, 3) := by decide +kernel
theorem dX7_goesOn_59 : decode cX7_goesOn 59 = .ok (.aload_n 0, 1) := by decide +kernel
theorem dX7_goesOn_60 : decode cX7_goesOn 60 = .ok (.getfield 43, 3) := by decide +kernel
theorem dX7_goesOn_63 : decode cX7_goesOn 63 = .ok (.iload_n 3, 1) := by decide +kernel
theorem dX7_goesOn_64 : decode cX7_goesOn 64 = .ok (.iaload, 1) := by decide +kernel
theorem dX7_goesOn_65 : decode cX7_goesOn 65 = .ok (.iconst 0, 1) := by decide +kernel
theorem dX7_goesOn_66 : decode cX7_goesOn 66 = .ok (.invokestatic 106, 3) := by decide +kernel
theorem dX7_goesOn_69 : decode cX7_goesOn 69 = .ok (.aload_n 0, 1) := by decide +kernel
theorem dX7_goesOn_70 : decode cX7_goesOn 70 = .ok (.getfield 46, 3) := by decide +kernel
theorem dX7_goesOn_73 : decode cX7_goesOn 73 = .ok (.iload_n 3, 1) := by decide +kernel
theorem dX7_goesOn_74 : decode cX7_goesOn 74 = .ok (.iaload, 1) := by decide +kernel
theorem dX7_goesOn_75 : decode cX7_goesOn 75 = .ok (.isub, 1) := by decide +kernel
theorem dX7_goesOn_76 : decode cX7_goesOn 76 = .ok (.istore 4, 2) := by decide +kernel
theorem dX7_goesOn_78 : decode cX7_goesOn 78 = .ok (.aload_n 0, 1) := by decide +kernel
theorem dX7_goesOn_79 : decode cX7_goesOn 79 = .ok (.iload_n 3, 1) := by decide +kernel
theorem dX7_goesOn_80 : decode cX7_goesOn 80 = .ok (.invokevirtual 119, 3) := by decide +kernel
theorem dX7_goesOn_83 : decode cX7_goesOn 83 = .ok (.ifCond .eq 64, 3) := by decide +kernel
theorem dX7_goesOn_86 : decode cX7_goesOn 86 = .ok (.iload 4, 2) := by decide +kernel
theorem dX7_goesOn_88 : decode cX7_goesOn 88 = .ok (.ifCond .le 59, 3) := by decide +kernel
theorem dX7_goesOn_91 : decode cX7_goesOn 91 = .ok (.aload_n 0, 1) := by decide +kernel
theorem dX7_goesOn_92 : decode cX7_goesOn 92 = .ok (.iload_n 3, 1) := by decide +kernel
theorem dX7_goesOn_93 : decode cX7_goesOn 93 = .ok (.iconst 4, 1) := by decide +kernel
theorem dX7_goesOn_94 : decode cX7_goesOn 94 = .ok (.aload_n 0, 1) := by decide +kernel
theorem dX7_goesOn_95 : decode cX7_goesOn 95 = .ok (.iload_n 3, 1) := by decide +kernel
theorem dX7_goesOn_96 : decode cX7_goesOn 96 = .ok (.iconst 4, 1) := by decide +kernel
theorem dX7_goesOn_97 : decode cX7_goesOn 97 = .ok (.invokevirtual 75, 3) := by decide +kernel
theorem dX7_goesOn_100 : decode cX7_goesOn 100 = .ok (.iload 4, 2) := by decide +kernel
theorem dX7_goesOn_102 : decode cX7_goesOn 102 = .ok (.iadd, 1) := by decide +kernel
theorem dX7_goesOn_103 : decode cX7_goesOn 103 = .ok (.iconst 0, 1) := by decide +kernel
theorem dX7_goesOn_104 : decode cX7_goesOn 104 = .ok (.sipush 999, 3) := by decide +kernel
theorem dX7_goesOn_107 : decode cX7_goesOn 107 = .ok (.invokestatic 116, 3) := by decide +kernel
theorem dX7_goesOn_110 : decode cX7_goesOn 110 = .ok (.invokevirtual 80, 3) := by decide +kernel
theorem dX7_goesOn_113 : decode cX7_goesOn 113 = .ok (.aload_n 0, 1) := by decide +kernel
theorem dX7_goesOn_114 : decode cX7_goesOn 114 = .ok (.iload_n 3, 1) := by decide +kernel
theorem dX7_goesOn_115 : decode cX7_goesOn 115 = .ok (.iconst 2, 1) := by decide +kernel
theorem dX7_goesOn_116 : decode cX7_goesOn 116 = .ok (.aload_n 0, 1) := by decide +kernel
theorem dX7_goesOn_117 : decode cX7_goesOn 117 = .ok (.iload_n 3, 1) := by decide +kernel
theorem dX7_goesOn_118 : decode cX7_goesOn 118 = .ok (.iconst 2, 1) := by decide +kernel
theorem dX7_goesOn_119 : decode cX7_goesOn 119 = .ok (.invokevirtual 75, 3) := by decide +kernel
theorem dX7_goesOn_122 : decode cX7_goesOn 122 = .ok (.aload_n 0, 1) := by decide +kernel
theorem dX7_goesOn_123 : decode cX7_goesOn 123 = .ok (.getfield 43, 3) := by decide +kernel
theorem dX7_goesOn_126 : decode cX7_goesOn 126 = .ok (.iload_n 3, 1) := by decide +kernel
theorem dX7_goesOn_127 : decode cX7_goesOn 127 = .ok (.iaload, 1) := by decide +kernel
theorem dX7_goesOn_128 : decode cX7_goesOn 128 = .ok (.ifCond .le 7, 3) := by decide +kernel
theorem dX7_goesOn_131 : decode cX7_goesOn 131 = .ok (.iconst 1, 1) := by decide +kernel
theorem dX7_goesOn_132 : decode cX7_goesOn 132 = .ok (.goto 4, 3) := by decide +kernel
theorem dX7_goesOn_135 : decode cX7_goesOn 135 = .ok (.iconst (-1), 1) := by decide +kernel
theorem dX7_goesOn_136 : decode cX7_goesOn 136 = .ok (.iadd, 1) := by decide +kernel
theorem dX7_goesOn_137 : decode cX7_goesOn 137 = .ok (.bipush (-50), 2) := by decide +kernel
theorem dX7_goesOn_139 : decode cX7_goesOn 139 = .ok (.bipush 50, 2) := by decide +kernel
theorem dX7_goesOn_141 : decode cX7_goesOn 141 = .ok (.invokestatic 116, 3) := by decide +kernel
theorem dX7_goesOn_144 : decode cX7_goesOn 144 = .ok (.invokevirtual 80, 3) := by decide +kernel
theorem dX7_goesOn_147 : decode cX7_goesOn 147 = .ok (.iinc 3 1, 3) := by decide +kernel
theorem dX7_goesOn_150 : decode cX7_goesOn 150 = .ok (.goto (-101), 3) := by decide +kernel
theorem dX7_goesOn_153 : decode cX7_goesOn 153 = .ok (.iconst 0, 1) := by decide +kernel
theorem dX7_goesOn_154 : decode cX7_goesOn 154 = .ok (.istore_n 3, 1) := by decide +kernel
theorem dX7_goesOn_155 : decode cX7_goesOn 155 = .ok (.iload_n 3, 1) := by decide +kernel
theorem dX7_goesOn_156 : decode cX7_goesOn 156 = .ok (.aload_n 0, 1) := by decide +kernel
theorem dX7_goesOn_157 : decode cX7_goesOn 157 = .ok (.getfield 7, 3) := by decide +kernel
theorem dX7_goesOn_160 : decode cX7_goesOn 160 = .ok (.iconst 0, 1) := by decide +kernel
theorem dX7_goesOn_161 : decode cX7_goesOn 161 = .ok (.iaload, 1) := by decide +kernel
theorem dX7_goesOn_162 : decode cX7_goesOn 162 = .ok (.if_icmp .ge 33, 3) := by decide +kernel
theorem dX7_goesOn_165 : decode cX7_goesOn 165 = .ok (.aload_n 0, 1) := by decide +kernel
theorem dX7_goesOn_166 : decode cX7_goesOn 166 = .ok (.iload_n 3, 1) := by decide +kernel
theorem dX7_goesOn_167 : decode cX7_goesOn 167 = .ok (.invokevirtual 119, 3) := by decide +kernel
theorem dX7_goesOn_170 : decode cX7_goesOn 170 = .ok (.ifCond .eq 19, 3) := by decide +kernel
theorem dX7_goesOn_173 : decode cX7_goesOn 173 = .ok (.aload_n 0, 1) := by decide +kernel
theorem dX7_goesOn_174 : decode cX7_goesOn 174 = .ok (.iload_n 3, 1) := by decide +kernel
theorem dX7_goesOn_175 : decode cX7_goesOn 175 = .ok (.iconst 4, 1) := by decide +kernel
theorem dX7_goesOn_176 : decode cX7_goesOn 176 = .ok (.invokevirtual 75, 3) := by decide +kernel
theorem dX7_goesOn_179 : decode cX7_goesOn 179 = .ok (.bipush 100, 2) := by decide +kernel
theorem dX7_goesOn_181 : decode cX7_goesOn 181 = .ok (.if_icmp .lt 8, 3) := by decide +kernel
theorem dX7_goesOn_184 : decode cX7_goesOn 184 = .ok (.aload_n 0, 1) := by decide +kernel
theorem dX7_goesOn_185 : decode cX7_goesOn 185 = .ok (.iload_n 3, 1) := by decide +kernel
theorem dX7_goesOn_186 : decode cX7_goesOn 186 = .ok (.invokevirtual 153, 3) := by decide +kernel
theorem dX7_goesOn_189 : decode cX7_goesOn 189 = .ok (.iinc 3 1, 3) := by decide +kernel
theorem dX7_goesOn_192 : decode cX7_goesOn 192 = .ok (.goto (-37), 3) := by decide +kernel
theorem dX7_goesOn_195 : decode cX7_goesOn 195 = .ok (.iconst 1, 1) := by decide +kernel
theorem dX7_goesOn_196 : decode cX7_goesOn 196 = .ok (.istore_n 3, 1) := by decide +kernel
theorem dX7_goesOn_197 : decode cX7_goesOn 197 = .ok (.iload_n 3, 1) := by decide +kernel
theorem dX7_goesOn_198 : decode cX7_goesOn 198 = .ok (.ifCond .eq 55, 3) := by decide +kernel
theorem dX7_goesOn_201 : decode cX7_goesOn 201 = .ok (.iconst 0, 1) := by decide +kernel
theorem dX7_goesOn_202 : decode cX7_goesOn 202 = .ok (.istore_n 3, 1) := by decide +kernel
theorem dX7_goesOn_203 : decode cX7_goesOn 203 = .ok (.iconst 0, 1) := by decide +kernel
theorem dX7_goesOn_204 : decode cX7_goesOn 204 = .ok (.istore 4, 2) := by decide +kernel
theorem dX7_goesOn_206 : decode cX7_goesOn 206 = .ok (.iload 4, 2) := by decide +kernel
theorem dX7_goesOn_208 : decode cX7_goesOn 208 = .ok (.aload_n 0, 1) := by decide +kernel
theorem dX7_goesOn_209 : decode cX7_goesOn 209 = .ok (.getfield 7, 3) := by decide +kernel
theorem dX7_goesOn_212 : decode cX7_goesOn 212 = .ok (.iconst 0, 1) := by decide +kernel
theorem dX7_goesOn_213 : decode cX7_goesOn 213 = .ok (.iaload, 1) := by decide +kernel
theorem dX7_goesOn_214 : decode cX7_goesOn 214 = .ok (.if_icmp .ge 36, 3) := by decide +kernel
theorem dX7_goesOn_217 : decode cX7_goesOn 217 = .ok (.aload_n 0, 1) := by decide +kernel
theorem dX7_goesOn_218 : decode cX7_goesOn 218 = .ok (.iload 4, 2) := by decide +kernel
theorem dX7_goesOn_220 : decode cX7_goesOn 220 = .ok (.invokevirtual 119, 3) := by decide +kernel
theorem dX7_goesOn_223 : decode cX7_goesOn 223 = .ok (.ifCond .eq 21, 3) := by decide +kernel
theorem dX7_goesOn_226 : decode cX7_goesOn 226 = .ok (.aload_n 0, 1) := by decide +kernel
theorem dX7_goesOn_227 : decode cX7_goesOn 227 = .ok (.iload 4, 2) := by decide +kernel
theorem dX7_goesOn_229 : decode cX7_goesOn 229 = .ok (.iload_n 1, 1) := by decide +kernel
theorem dX7_goesOn_230 : decode cX7_goesOn 230 = .ok (.invokevirtual 167, 3) := by decide +kernel
theorem dX7_goesOn_233 : decode cX7_goesOn 233 = .ok (.ifCond .eq 11, 3) := by decide +kernel
theorem dX7_goesOn_236 : decode cX7_goesOn 236 = .ok (.aload_n 0, 1) := by decide +kernel
theorem dX7_goesOn_237 : decode cX7_goesOn 237 = .ok (.iload 4, 2) := by decide +kernel
theorem dX7_goesOn_239 : decode cX7_goesOn 239 = .ok (.invokevirtual 153, 3) := by decide +kernel
theorem dX7_goesOn_242 : decode cX7_goesOn 242 = .ok (.iconst 1, 1) := by decide +kernel
theorem dX7_goesOn_243 : decode cX7_goesOn 243 = .ok (.istore_n 3, 1) := by decide +kernel
theorem dX7_goesOn_244 : decode cX7_goesOn 244 = .ok (.iinc 4 1, 3) := by decide +kernel
theorem dX7_goesOn_247 : decode cX7_goesOn 247 = .ok (.goto (-41), 3) := by decide +kernel
theorem dX7_goesOn_250 : decode cX7_goesOn 250 = .ok (.goto (-53), 3) := by decide +kernel
theorem dX7_goesOn_253 : decode cX7_goesOn 253 = .ok (.iconst 0, 1) := by decide +kernel
theorem dX7_goesOn_254 : decode cX7_goesOn 254 = .ok (.istore 4, 2) := by decide +kernel
theorem dX7_goesOn_256 : decode cX7_goesOn 256 = .ok (.iload 4, 2) := by decide +kernel
theorem dX7_goesOn_258 : decode cX7_goesOn 258 = .ok (.aload_n 0, 1) := by decide +kernel
theorem dX7_goesOn_259 : decode cX7_goesOn 259 = .ok (.getfield 7, 3) := by decide +kernel
theorem dX7_goesOn_262 : decode cX7_goesOn 262 = .ok (.iconst 0, 1) := by decide +kernel
theorem dX7_goesOn_263 : decode cX7_goesOn 263 = .ok (.iaload, 1) := by decide +kernel
theorem dX7_goesOn_264 : decode cX7_goesOn 264 = .ok (.if_icmp .ge 19, 3) := by decide +kernel
theorem dX7_goesOn_267 : decode cX7_goesOn 267 = .ok (.iload_n 2, 1) := by decide +kernel
theorem dX7_goesOn_268 : decode cX7_goesOn 268 = .ok (.aload_n 0, 1) := by decide +kernel
theorem dX7_goesOn_269 : decode cX7_goesOn 269 = .ok (.iload 4, 2) := by decide +kernel
theorem dX7_goesOn_271 : decode cX7_goesOn 271 = .ok (.iconst 5, 1) := by decide +kernel
theorem dX7_goesOn_272 : decode cX7_goesOn 272 = .ok (.invokevirtual 75, 3) := by decide +kernel
theorem dX7_goesOn_275 : decode cX7_goesOn 275 = .ok (.iadd, 1) := by decide +kernel
theorem dX7_goesOn_276 : decode cX7_goesOn 276 = .ok (.istore_n 2, 1) := by decide +kernel
theorem dX7_goesOn_277 : decode cX7_goesOn 277 = .ok (.iinc 4 1, 3) := by decide +kernel
theorem dX7_goesOn_280 : decode cX7_goesOn 280 = .ok (.goto (-24), 3) := by decide +kernel
theorem dX7_goesOn_283 : decode cX7_goesOn 283 = .ok (.aload_n 0, 1) := by decide +kernel
theorem dX7_goesOn_284 : decode cX7_goesOn 284 = .ok (.getfield 7, 3) := by decide +kernel
theorem dX7_goesOn_287 : decode cX7_goesOn 287 = .ok (.iconst 3, 1) := by decide +kernel
theorem dX7_goesOn_288 : decode cX7_goesOn 288 = .ok (.dup2, 1) := by decide +kernel
theorem dX7_goesOn_289 : decode cX7_goesOn 289 = .ok (.iaload, 1) := by decide +kernel
theorem dX7_goesOn_290 : decode cX7_goesOn 290 = .ok (.iload_n 2, 1) := by decide +kernel
theorem dX7_goesOn_291 : decode cX7_goesOn 291 = .ok (.iadd, 1) := by decide +kernel
theorem dX7_goesOn_292 : decode cX7_goesOn 292 = .ok (.iastore, 1) := by decide +kernel
theorem dX7_goesOn_293 : decode cX7_goesOn 293 = .ok (.aload_n 0, 1) := by decide +kernel
theorem dX7_goesOn_294 : decode cX7_goesOn 294 = .ok (.getfield 7, 3) := by decide +kernel
theorem dX7_goesOn_297 : decode cX7_goesOn 297 = .ok (.iconst 2, 1) := by decide +kernel
theorem dX7_goesOn_298 : decode cX7_goesOn 298 = .ok (.dup2, 1) := by decide +kernel
theorem dX7_goesOn_299 : decode cX7_goesOn 299 = .ok (.iaload, 1) := by decide +kernel
theorem dX7_goesOn_300 : decode cX7_goesOn 300 = .ok (.iconst 1, 1) := by decide +kernel
theorem dX7_goesOn_301 : decode cX7_goesOn 301 = .ok (.iadd, 1) := by decide +kernel
theorem dX7_goesOn_302 : decode cX7_goesOn 302 = .ok (.iastore, 1) := by decide +kernel
theorem dX7_goesOn_303 : decode cX7_goesOn 303 = .ok (.return_, 1) := by decide +kernel
set_option maxRecDepth 20000 in
theorem ggX7_days_X7_isIn : GoodIn wsX7_days wsX7_isIn := goodIn_r _ [7] (by decide +kernel) (by decide +kernel)
set_option maxRecDepth 20000 in
theorem gX7_days_X7_isIn : GoodIn wsX7_days (va_wsS RX7 71 yX7_isIn wsX7_isIn) := goodIn_app (goodIn_of _ (by decide +kernel)) ggX7_days_X7_isIn
set_option maxRecDepth 20000 in
theorem ggX7_days_X7_allStanding : GoodIn wsX7_days wsX7_allStanding := goodIn_r _ [11, 3, 12, 13, 14, 6, 15, 16, 17, 18, 19, 80, 81, 82, 83, 84, 85, 86, 87, 88, 89, 90, 91, 92, 93, 94, 95, 96, 97, 98, 99, 100, 101, 102, 103, 104, 105, 106, 107, 108, 109, 110, 111, 112] (by decide +kernel) (by decide +kernel)
set_option maxRecDepth 20000 in
theorem gX7_days_X7_allStanding : GoodIn wsX7_days (wsV RX7 123 RX7 yX7_allStanding wsX7_allStanding) := goodIn_app (goodIn_of _ (by decide +kernel)) ggX7_days_X7_allStanding
set_option maxRecDepth 20000 in
theorem ggX7_days_X7_manyIn : GoodIn wsX7_days wsX7_manyIn := goodIn_r _ [22] (by decide +kernel) (by decide +kernel)
set_option maxRecDepth 20000 in
theorem gX7_days_X7_manyIn : GoodIn wsX7_days (va_wsS RX7 157 yX7_manyIn wsX7_manyIn) := goodIn_app (goodIn_of _ (by decide +kernel)) ggX7_days_X7_manyIn
set_option maxRecDepth 20000 in
theorem ggX7_days_X7_goesOn : GoodIn wsX7_days wsX7_goesOn := goodIn_r _ [26, 3, 27, 28, 8, 9, 10, 6, 11, 12, 13, 14, 15, 16, 17, 18, 19, 29, 30, 31, 32, 33, 34, 35, 36, 37, 38, 39, 40, 41, 42, 43, 44, 45, 46, 47, 48, 49, 50, 51, 52, 53, 54, 55, 56, 57, 58, 59, 60, 61, 62, 63, 64, 65, 66, 67, 68, 69, 70, 71, 72, 73, 74, 75, 76, 77, 78, 79, 80, 81, 82, 83, 84, 85, 86, 87, 88, 89, 90, 91, 92, 93, 94, 95, 96, 97, 98, 99, 100, 101, 102, 103, 104, 105, 106, 107, 108, 109, 110, 111, 112] (by decide +kernel) (by decide +kernel)
set_option maxRecDepth 20000 in
theorem gX7_days_X7_goesOn : GoodIn wsX7_days (wsV RX7 172 RX7 yX7_goesOn wsX7_goesOn) := goodIn_app (goodIn_of _ (by decide +kernel)) ggX7_days_X7_goesOn
theorem dX7_days_0 : decode cX7_days 0 = .ok (.iload_n 1, 1) := by decide +kernel
theorem dX7_days_1 : decode cX7_days 1 = .ok (.i2l, 1) := by decide +kernel
theorem dX7_days_2 : decode cX7_days 2 = .ok (.lconst 1, 1) := by decide +kernel
theorem dX7_days_3 : decode cX7_days 3 = .ok (.ldc2_w 170, 3) := by decide +kernel
theorem dX7_days_6 : decode cX7_days 6 = .ok (.invokestatic 71, 3) := by decide +kernel
theorem dX7_days_9 : decode cX7_days 9 = .ok (.ifCond .ne 6, 3) := by decide +kernel
theorem dX7_days_12 : decode cX7_days 12 = .ok (.ldc 100, 2) := by decide +kernel
theorem dX7_days_14 : decode cX7_days 14 = .ok (.ireturn, 1) := by decide +kernel
theorem dX7_days_15 : decode cX7_days 15 = .ok (.aload_n 0, 1) := by decide +kernel
theorem dX7_days_16 : decode cX7_days 16 = .ok (.invokevirtual 123, 3) := by decide +kernel
theorem dX7_days_19 : decode cX7_days 19 = .ok (.invokestatic 157, 3) := by decide +kernel
theorem dX7_days_22 : decode cX7_days 22 = .ok (.istore_n 2, 1) := by decide +kernel
theorem dX7_days_23 : decode cX7_days 23 = .ok (.iconst 0, 1) := by decide +kernel
theorem dX7_days_24 : decode cX7_days 24 = .ok (.istore_n 3, 1) := by decide +kernel
theorem dX7_days_25 : decode cX7_days 25 = .ok (.iload_n 3, 1) := by decide +kernel
theorem dX7_days_26 : decode cX7_days 26 = .ok (.iload_n 1, 1) := by decide +kernel
theorem dX7_days_27 : decode cX7_days 27 = .ok (.if_icmp .ge 25, 3) := by decide +kernel
theorem dX7_days_30 : decode cX7_days 30 = .ok (.aload_n 0, 1) := by decide +kernel
theorem dX7_days_31 : decode cX7_days 31 = .ok (.getfield 7, 3) := by decide +kernel
theorem dX7_days_34 : decode cX7_days 34 = .ok (.iconst 2, 1) := by decide +kernel
theorem dX7_days_35 : decode cX7_days 35 = .ok (.iaload, 1) := by decide +kernel
theorem dX7_days_36 : decode cX7_days 36 = .ok (.sipush 9999, 3) := by decide +kernel
theorem dX7_days_39 : decode cX7_days 39 = .ok (.if_icmp .ge 13, 3) := by decide +kernel
theorem dX7_days_42 : decode cX7_days 42 = .ok (.aload_n 0, 1) := by decide +kernel
theorem dX7_days_43 : decode cX7_days 43 = .ok (.invokevirtual 172, 3) := by decide +kernel
theorem dX7_days_46 : decode cX7_days 46 = .ok (.iinc 3 1, 3) := by decide +kernel
theorem dX7_days_49 : decode cX7_days 49 = .ok (.goto (-24), 3) := by decide +kernel
theorem dX7_days_52 : decode cX7_days 52 = .ok (.iload_n 2, 1) := by decide +kernel
theorem dX7_days_53 : decode cX7_days 53 = .ok (.aload_n 0, 1) := by decide +kernel
theorem dX7_days_54 : decode cX7_days 54 = .ok (.invokevirtual 123, 3) := by decide +kernel
theorem dX7_days_57 : decode cX7_days 57 = .ok (.invokestatic 157, 3) := by decide +kernel
theorem dX7_days_60 : decode cX7_days 60 = .ok (.isub, 1) := by decide +kernel
theorem dX7_days_61 : decode cX7_days 61 = .ok (.ireturn, 1) := by decide +kernel
set_option maxRecDepth 20000 in
theorem ggX7_allOf_X7_of : GoodIn wsX7_allOf wsX7_of := goodIn_r _ [6, 1, 7, 8, 9, 10, 11, 12, 13, 14, 15, 16, 17, 18, 19, 20, 21, 22, 23, 24, 25, 26, 27, 28, 29, 30, 31, 32, 33, 34, 35, 36, 37, 38, 39] (by decide +kernel) (by decide +kernel)
set_option maxRecDepth 20000 in
theorem gX7_allOf_X7_of : GoodIn wsX7_allOf (wsV RX7 75 RX7 yX7_of wsX7_of) := goodIn_app (goodIn_of _ (by decide +kernel)) ggX7_allOf_X7_of
theorem dX7_allOf_0 : decode cX7_allOf 0 = .ok (.iconst 0, 1) := by decide +kernel
theorem dX7_allOf_1 : decode cX7_allOf 1 = .ok (.istore_n 2, 1) := by decide +kernel
theorem dX7_allOf_2 : decode cX7_allOf 2 = .ok (.iconst 0, 1) := by decide +kernel
theorem dX7_allOf_3 : decode cX7_allOf 3 = .ok (.istore_n 3, 1) := by decide +kernel
theorem dX7_allOf_4 : decode cX7_allOf 4 = .ok (.iload_n 3, 1) := by decide +kernel
theorem dX7_allOf_5 : decode cX7_allOf 5 = .ok (.aload_n 0, 1) := by decide +kernel
theorem dX7_allOf_6 : decode cX7_allOf 6 = .ok (.getfield 7, 3) := by decide +kernel
theorem dX7_allOf_9 : decode cX7_allOf 9 = .ok (.iconst 0, 1) := by decide +kernel
theorem dX7_allOf_10 : decode cX7_allOf 10 = .ok (.iaload, 1) := by decide +kernel
theorem dX7_allOf_11 : decode cX7_allOf 11 = .ok (.if_icmp .ge 18, 3) := by decide +kernel
theorem dX7_allOf_14 : decode cX7_allOf 14 = .ok (.iload_n 2, 1) := by decide +kernel
theorem dX7_allOf_15 : decode cX7_allOf 15 = .ok (.aload_n 0, 1) := by decide +kernel
theorem dX7_allOf_16 : decode cX7_allOf 16 = .ok (.iload_n 3, 1) := by decide +kernel
theorem dX7_allOf_17 : decode cX7_allOf 17 = .ok (.iload_n 1, 1) := by decide +kernel
theorem dX7_allOf_18 : decode cX7_allOf 18 = .ok (.invokevirtual 75, 3) := by decide +kernel
theorem dX7_allOf_21 : decode cX7_allOf 21 = .ok (.iadd, 1) := by decide +kernel
theorem dX7_allOf_22 : decode cX7_allOf 22 = .ok (.istore_n 2, 1) := by decide +kernel
theorem dX7_allOf_23 : decode cX7_allOf 23 = .ok (.iinc 3 1, 3) := by decide +kernel
theorem dX7_allOf_26 : decode cX7_allOf 26 = .ok (.goto (-22), 3) := by decide +kernel
theorem dX7_allOf_29 : decode cX7_allOf 29 = .ok (.iload_n 2, 1) := by decide +kernel
theorem dX7_allOf_30 : decode cX7_allOf 30 = .ok (.ireturn, 1) := by decide +kernel
set_option maxRecDepth 20000 in
theorem ggX7_looseOnes_X7_stands : GoodIn wsX7_looseOnes wsX7_stands := goodIn_r _ [6, 7, 8, 9, 5, 10, 1, 54, 55, 56, 57, 58, 59, 60, 61, 62, 63, 64, 65, 66, 67, 68, 69, 70, 71, 72, 73, 74, 75, 76, 77, 78, 79, 80, 81, 82, 83, 84, 85, 86] (by decide +kernel) (by decide +kernel)
set_option maxRecDepth 20000 in
theorem gX7_looseOnes_X7_stands : GoodIn wsX7_looseOnes (wsV RX7 119 RX7 yX7_stands wsX7_stands) := goodIn_app (goodIn_of _ (by decide +kernel)) ggX7_looseOnes_X7_stands
set_option maxRecDepth 20000 in
theorem ggX7_looseOnes_X7_thrust : GoodIn wsX7_looseOnes wsX7_thrust := goodIn_r _ [14, 1, 2, 3, 4, 5, 6, 7, 8, 9, 10, 15, 16, 17, 18, 19, 20, 21, 22, 23, 24, 25, 26, 27, 28, 29, 30, 31, 32, 33, 34, 35, 36, 37, 38, 39, 40, 41, 42, 43, 44, 45, 46, 47, 48, 49, 54, 55, 56, 57, 58, 59, 60, 61, 62, 63, 64, 65, 66, 67, 68, 69, 70, 71, 72, 73, 74, 75, 76, 77, 78, 79, 80, 81, 82, 83, 84, 85, 86] (by decide +kernel) (by decide +kernel)
set_option maxRecDepth 20000 in
theorem gX7_looseOnes_X7_thrust : GoodIn wsX7_looseOnes (wsV RX7 139 RX7 yX7_thrust wsX7_thrust) := goodIn_app (goodIn_of _ (by decide +kernel)) ggX7_looseOnes_X7_thrust
set_option maxRecDepth 20000 in
theorem ggX7_looseOnes_X7_off : GoodIn wsX7_looseOnes wsX7_off := goodIn_r _ [30] (by decide +kernel) (by decide +kernel)
set_option maxRecDepth 20000 in
theorem gX7_looseOnes_X7_off : GoodIn wsX7_looseOnes (va_wsS RX7 106 yX7_off wsX7_off) := goodIn_app (goodIn_of _ (by decide +kernel)) ggX7_looseOnes_X7_off
set_option maxRecDepth 20000 in
theorem ggX7_looseOnes_X7_bears : GoodIn wsX7_looseOnes wsX7_bears := goodIn_r _ [53, 7, 8, 9, 5, 10, 1, 54, 55, 56, 57, 58, 59, 60, 61, 62, 63, 64, 65, 66, 67, 68, 69, 70, 71, 72, 73, 74, 75, 76, 77, 78, 79, 80, 81, 82, 83, 84, 85, 86] (by decide +kernel) (by decide +kernel)
set_option maxRecDepth 20000 in
theorem gX7_looseOnes_X7_bears : GoodIn wsX7_looseOnes (wsV RX7 136 RX7 yX7_bears wsX7_bears) := goodIn_app (goodIn_of _ (by decide +kernel)) ggX7_looseOnes_X7_bears
theorem dX7_looseOnes_0 : decode cX7_looseOnes 0 = .ok (.iconst 0, 1) := by decide +kernel
theorem dX7_looseOnes_1 : decode cX7_looseOnes 1 = .ok (.istore_n 1, 1) := by decide +kernel
theorem dX7_looseOnes_2 : decode cX7_looseOnes 2 = .ok (.iconst 0, 1) := by decide +kernel
theorem dX7_looseOnes_3 : decode cX7_looseOnes 3 = .ok (.istore_n 2, 1) := by decide +kernel
theorem dX7_looseOnes_4 : decode cX7_looseOnes 4 = .ok (.iload_n 2, 1) := by decide +kernel
theorem dX7_looseOnes_5 : decode cX7_looseOnes 5 = .ok (.aload_n 0, 1) := by decide +kernel
theorem dX7_looseOnes_6 : decode cX7_looseOnes 6 = .ok (.getfield 7, 3) := by decide +kernel
theorem dX7_looseOnes_9 : decode cX7_looseOnes 9 = .ok (.iconst 0, 1) := by decide +kernel
theorem dX7_looseOnes_10 : decode cX7_looseOnes 10 = .ok (.iaload, 1) := by decide +kernel
theorem dX7_looseOnes_11 : decode cX7_looseOnes 11 = .ok (.if_icmp .ge 44, 3) := by decide +kernel
theorem dX7_looseOnes_14 : decode cX7_looseOnes 14 = .ok (.iload_n 1, 1) := by decide +kernel
theorem dX7_looseOnes_15 : decode cX7_looseOnes 15 = .ok (.aload_n 0, 1) := by decide +kernel
theorem dX7_looseOnes_16 : decode cX7_looseOnes 16 = .ok (.iload_n 2, 1) := by decide +kernel
theorem dX7_looseOnes_17 : decode cX7_looseOnes 17 = .ok (.invokevirtual 119, 3) := by decide +kernel
theorem dX7_looseOnes_20 : decode cX7_looseOnes 20 = .ok (.ifCond .eq 26, 3) := by decide +kernel
theorem dX7_looseOnes_23 : decode cX7_looseOnes 23 = .ok (.aload_n 0, 1) := by decide +kernel
theorem dX7_looseOnes_24 : decode cX7_looseOnes 24 = .ok (.iload_n 2, 1) := by decide +kernel
theorem dX7_looseOnes_25 : decode cX7_looseOnes 25 = .ok (.invokevirtual 139, 3) := by decide +kernel
theorem dX7_looseOnes_28 : decode cX7_looseOnes 28 = .ok (.iconst 0, 1) := by decide +kernel
theorem dX7_looseOnes_29 : decode cX7_looseOnes 29 = .ok (.invokestatic 106, 3) := by decide +kernel
theorem dX7_looseOnes_32 : decode cX7_looseOnes 32 = .ok (.aload_n 0, 1) := by decide +kernel
theorem dX7_looseOnes_33 : decode cX7_looseOnes 33 = .ok (.iload_n 2, 1) := by decide +kernel
theorem dX7_looseOnes_34 : decode cX7_looseOnes 34 = .ok (.invokevirtual 136, 3) := by decide +kernel
theorem dX7_looseOnes_37 : decode cX7_looseOnes 37 = .ok (.if_icmp .le 9, 3) := by decide +kernel
theorem dX7_looseOnes_40 : decode cX7_looseOnes 40 = .ok (.iconst 1, 1) := by decide +kernel
theorem dX7_looseOnes_41 : decode cX7_looseOnes 41 = .ok (.iload_n 2, 1) := by decide +kernel
theorem dX7_looseOnes_42 : decode cX7_looseOnes 42 = .ok (.ishl, 1) := by decide +kernel
theorem dX7_looseOnes_43 : decode cX7_looseOnes 43 = .ok (.goto 4, 3) := by decide +kernel
theorem dX7_looseOnes_46 : decode cX7_looseOnes 46 = .ok (.iconst 0, 1) := by decide +kernel
theorem dX7_looseOnes_47 : decode cX7_looseOnes 47 = .ok (.ior, 1) := by decide +kernel
theorem dX7_looseOnes_48 : decode cX7_looseOnes 48 = .ok (.istore_n 1, 1) := by decide +kernel
theorem dX7_looseOnes_49 : decode cX7_looseOnes 49 = .ok (.iinc 2 1, 3) := by decide +kernel
theorem dX7_looseOnes_52 : decode cX7_looseOnes 52 = .ok (.goto (-48), 3) := by decide +kernel
theorem dX7_looseOnes_55 : decode cX7_looseOnes 55 = .ok (.iload_n 1, 1) := by decide +kernel
theorem dX7_looseOnes_56 : decode cX7_looseOnes 56 = .ok (.ireturn, 1) := by decide +kernel
set_option maxRecDepth 20000 in
theorem ggX7_street_X7_allStanding : GoodIn wsX7_street wsX7_allStanding := goodIn_r _ [7, 1, 8, 9, 10, 6, 11, 12, 13, 14, 15, 63, 64, 65, 66, 67, 68, 69, 70, 71, 72, 73, 74, 75, 76, 77, 78, 79, 80, 81, 82, 83, 84, 85, 86, 87, 88, 89, 90, 91, 92, 93, 94, 95] (by decide +kernel) (by decide +kernel)
set_option maxRecDepth 20000 in
theorem gX7_street_X7_allStanding : GoodIn wsX7_street (wsV RX7 123 RX7 yX7_allStanding wsX7_allStanding) := goodIn_app (goodIn_of _ (by decide +kernel)) ggX7_street_X7_allStanding
set_option maxRecDepth 20000 in
theorem ggX7_street_X7_allOf : GoodIn wsX7_street wsX7_allOf := goodIn_r _ [19, 1, 12, 13, 14, 6, 15, 63, 64, 65, 66, 67, 68, 69, 70, 71, 72, 73, 74, 75, 76, 77, 78, 79, 80, 81, 82, 83, 84, 85, 86, 87, 88, 89, 90, 91, 92, 93, 94, 95] (by decide +kernel) (by decide +kernel)
set_option maxRecDepth 20000 in
theorem gX7_street_X7_allOf : GoodIn wsX7_street (wsV RX7 175 RX7 yX7_allOf wsX7_allOf) := goodIn_app (goodIn_of _ (by decide +kernel)) ggX7_street_X7_allOf
set_option maxRecDepth 20000 in
theorem ggX7_street_X7_looseOnes : GoodIn wsX7_street wsX7_looseOnes := goodIn_r _ [23, 1, 8, 9, 10, 6, 11, 12, 13, 14, 15, 24, 25, 26, 27, 3, 4, 5, 7, 28, 29, 30, 31, 32, 33, 34, 35, 36, 37, 38, 39, 40, 41, 42, 43, 44, 45, 46, 47, 48, 49, 50, 51, 52, 53, 54, 55, 56, 57, 58, 59, 60, 61, 62, 63, 64, 65, 66, 67, 68, 69, 70, 71, 72, 73, 74, 75, 76, 77, 78, 79, 80, 81, 82, 83, 84, 85, 86, 87, 88, 89, 90, 91, 92, 93, 94, 95] (by decide +kernel) (by decide +kernel)
set_option maxRecDepth 20000 in
theorem gX7_street_X7_looseOnes : GoodIn wsX7_street (wsV RX7 178 RX7 yX7_looseOnes wsX7_looseOnes) := goodIn_app (goodIn_of _ (by decide +kernel)) ggX7_street_X7_looseOnes
theorem dX7_street_0 : decode cX7_street 0 = .ok (.iload_n 1, 1) := by decide +kernel
theorem dX7_street_1 : decode cX7_street 1 = .ok (.tableswitch 64 0 4 #[35, 42, 47, 53, 59], 35) := by decide +kernel
theorem dX7_street_36 : decode cX7_street 36 = .ok (.aload_n 0, 1) := by decide +kernel
theorem dX7_street_37 : decode cX7_street 37 = .ok (.getfield 7, 3) := by decide +kernel
theorem dX7_street_40 : decode cX7_street 40 = .ok (.iconst 3, 1) := by decide +kernel
theorem dX7_street_41 : decode cX7_street 41 = .ok (.iaload, 1) := by decide +kernel
theorem dX7_street_42 : decode cX7_street 42 = .ok (.ireturn, 1) := by decide +kernel
theorem dX7_street_43 : decode cX7_street 43 = .ok (.aload_n 0, 1) := by decide +kernel
theorem dX7_street_44 : decode cX7_street 44 = .ok (.invokevirtual 123, 3) := by decide +kernel
theorem dX7_street_47 : decode cX7_street 47 = .ok (.ireturn, 1) := by decide +kernel
theorem dX7_street_48 : decode cX7_street 48 = .ok (.aload_n 0, 1) := by decide +kernel
theorem dX7_street_49 : decode cX7_street 49 = .ok (.iconst 4, 1) := by decide +kernel
theorem dX7_street_50 : decode cX7_street 50 = .ok (.invokevirtual 175, 3) := by decide +kernel
theorem dX7_street_53 : decode cX7_street 53 = .ok (.ireturn, 1) := by decide +kernel
theorem dX7_street_54 : decode cX7_street 54 = .ok (.aload_n 0, 1) := by decide +kernel
theorem dX7_street_55 : decode cX7_street 55 = .ok (.iconst 5, 1) := by decide +kernel
theorem dX7_street_56 : decode cX7_street 56 = .ok (.invokevirtual 175, 3) := by decide +kernel
theorem dX7_street_59 : decode cX7_street 59 = .ok (.ireturn, 1) := by decide +kernel
theorem dX7_street_60 : decode cX7_street 60 = .ok (.aload_n 0, 1) := by decide +kernel
theorem dX7_street_61 : decode cX7_street 61 = .ok (.invokevirtual 178, 3) := by decide +kernel
theorem dX7_street_64 : decode cX7_street 64 = .ok (.ireturn, 1) := by decide +kernel
theorem dX7_street_65 : decode cX7_street 65 = .ok (.ldc 100, 2) := by decide +kernel
theorem dX7_street_67 : decode cX7_street 67 = .ok (.ireturn, 1) := by decide +kernel
theorem dX7_laysBy_0 : decode cX7_laysBy 0 = .ok (.iconst 0, 1) := by decide +kernel
theorem dX7_laysBy_1 : decode cX7_laysBy 1 = .ok (.istore_n 1, 1) := by decide +kernel
theorem dX7_laysBy_2 : decode cX7_laysBy 2 = .ok (.iload_n 1, 1) := by decide +kernel
theorem dX7_laysBy_3 : decode cX7_laysBy 3 = .ok (.bipush 69, 2) := by decide +kernel
theorem dX7_laysBy_5 : decode cX7_laysBy 5 = .ok (.if_icmp .ge 21, 3) := by decide +kernel
theorem dX7_laysBy_8 : decode cX7_laysBy 8 = .ok (.aload_n 0, 1) := by decide +kernel
theorem dX7_laysBy_9 : decode cX7_laysBy 9 = .ok (.getfield 49, 3) := by decide +kernel
theorem dX7_laysBy_12 : decode cX7_laysBy 12 = .ok (.iload_n 1, 1) := by decide +kernel
theorem dX7_laysBy_13 : decode cX7_laysBy 13 = .ok (.aload_n 0, 1) := by decide +kernel
theorem dX7_laysBy_14 : decode cX7_laysBy 14 = .ok (.getfield 7, 3) := by decide +kernel
theorem dX7_laysBy_17 : decode cX7_laysBy 17 = .ok (.iload_n 1, 1) := by decide +kernel
theorem dX7_laysBy_18 : decode cX7_laysBy 18 = .ok (.iaload, 1) := by decide +kernel
theorem dX7_laysBy_19 : decode cX7_laysBy 19 = .ok (.iastore, 1) := by decide +kernel
theorem dX7_laysBy_20 : decode cX7_laysBy 20 = .ok (.iinc 1 1, 3) := by decide +kernel
theorem dX7_laysBy_23 : decode cX7_laysBy 23 = .ok (.goto (-21), 3) := by decide +kernel
theorem dX7_laysBy_26 : decode cX7_laysBy 26 = .ok (.return_, 1) := by decide +kernel
theorem dX7_laysBack_0 : decode cX7_laysBack 0 = .ok (.iconst 0, 1) := by decide +kernel
theorem dX7_laysBack_1 : decode cX7_laysBack 1 = .ok (.istore_n 1, 1) := by decide +kernel
theorem dX7_laysBack_2 : decode cX7_laysBack 2 = .ok (.iload_n 1, 1) := by decide +kernel
theorem dX7_laysBack_3 : decode cX7_laysBack 3 = .ok (.bipush 69, 2) := by decide +kernel
theorem dX7_laysBack_5 : decode cX7_laysBack 5 = .ok (.if_icmp .ge 21, 3) := by decide +kernel
