theorem dX0_init_0 : decode cX0_init 0 = .ok (.aload_n 0, 1) := by decide +kernel
theorem dX0_init_1 : decode cX0_init 1 = .ok (.invokespecial 3, 3) := by decide +kernel
theorem dX0_init_4 : decode cX0_init 4 = .ok (.return_, 1) := by decide +kernel
theorem dX0_beLike_0 : decode cX0_beLike 0 = .ok (.aload_n 0, 1) := by decide +kernel
theorem dX0_beLike_1 : decode cX0_beLike 1 = .ok (.aload_n 1, 1) := by decide +kernel
theorem dX0_beLike_2 : decode cX0_beLike 2 = .ok (.getfield 9, 3) := by decide +kernel
theorem dX0_beLike_5 : decode cX0_beLike 5 = .ok (.putfield 9, 3) := by decide +kernel
theorem dX0_beLike_8 : decode cX0_beLike 8 = .ok (.aload_n 0, 1) := by decide +kernel
theorem dX0_beLike_9 : decode cX0_beLike 9 = .ok (.aload_n 1, 1) := by decide +kernel
theorem dX0_beLike_10 : decode cX0_beLike 10 = .ok (.getfield 15, 3) := by decide +kernel
theorem dX0_beLike_13 : decode cX0_beLike 13 = .ok (.putfield 15, 3) := by decide +kernel
theorem dX0_beLike_16 : decode cX0_beLike 16 = .ok (.aload_n 0, 1) := by decide +kernel
theorem dX0_beLike_17 : decode cX0_beLike 17 = .ok (.aload_n 1, 1) := by decide +kernel
theorem dX0_beLike_18 : decode cX0_beLike 18 = .ok (.getfield 18, 3) := by decide +kernel
theorem dX0_beLike_21 : decode cX0_beLike 21 = .ok (.putfield 18, 3) := by decide +kernel
theorem dX0_beLike_24 : decode cX0_beLike 24 = .ok (.aload_n 0, 1) := by decide +kernel
theorem dX0_beLike_25 : decode cX0_beLike 25 = .ok (.aload_n 1, 1) := by decide +kernel
theorem dX0_beLike_26 : decode cX0_beLike 26 = .ok (.getfield 21, 3) := by decide +kernel
theorem dX0_beLike_29 : decode cX0_beLike 29 = .ok (.putfield 21, 3) := by decide +kernel
theorem dX0_beLike_32 : decode cX0_beLike 32 = .ok (.aload_n 0, 1) := by decide +kernel
theorem dX0_beLike_33 : decode cX0_beLike 33 = .ok (.aload_n 1, 1) := by decide +kernel
theorem dX0_beLike_34 : decode cX0_beLike 34 = .ok (.getfield 24, 3) := by decide +kernel
theorem dX0_beLike_37 : decode cX0_beLike 37 = .ok (.putfield 24, 3) := by decide +kernel
theorem dX0_beLike_40 : decode cX0_beLike 40 = .ok (.aload_n 0, 1) := by decide +kernel
theorem dX0_beLike_41 : decode cX0_beLike 41 = .ok (.aload_n 1, 1) := by decide +kernel
theorem dX0_beLike_42 : decode cX0_beLike 42 = .ok (.getfield 27, 3) := by decide +kernel
theorem dX0_beLike_45 : decode cX0_beLike 45 = .ok (.putfield 27, 3) := by decide +kernel
theorem dX0_beLike_48 : decode cX0_beLike 48 = .ok (.aload_n 0, 1) := by decide +kernel
theorem dX0_beLike_49 : decode cX0_beLike 49 = .ok (.aload_n 1, 1) := by decide +kernel
theorem dX0_beLike_50 : decode cX0_beLike 50 = .ok (.getfield 30, 3) := by decide +kernel
theorem dX0_beLike_53 : decode cX0_beLike 53 = .ok (.putfield 30, 3) := by decide +kernel
theorem dX0_beLike_56 : decode cX0_beLike 56 = .ok (.return_, 1) := by decide +kernel
theorem dX0_fall_0 : decode cX0_fall 0 = .ok (.aload_n 0, 1) := by decide +kernel
theorem dX0_fall_1 : decode cX0_fall 1 = .ok (.iconst 0, 1) := by decide +kernel
theorem dX0_fall_2 : decode cX0_fall 2 = .ok (.putfield 30, 3) := by decide +kernel
theorem dX0_fall_5 : decode cX0_fall 5 = .ok (.aload_n 0, 1) := by decide +kernel
theorem dX0_fall_6 : decode cX0_fall 6 = .ok (.iconst 0, 1) := by decide +kernel
theorem dX0_fall_7 : decode cX0_fall 7 = .ok (.putfield 27, 3) := by decide +kernel
theorem dX0_fall_10 : decode cX0_fall 10 = .ok (.return_, 1) := by decide +kernel
theorem dX0_rise_0 : decode cX0_rise 0 = .ok (.aload_n 0, 1) := by decide +kernel
theorem dX0_rise_1 : decode cX0_rise 1 = .ok (.iconst 1, 1) := by decide +kernel
theorem dX0_rise_2 : decode cX0_rise 2 = .ok (.putfield 30, 3) := by decide +kernel
theorem dX0_rise_5 : decode cX0_rise 5 = .ok (.aload_n 0, 1) := by decide +kernel
theorem dX0_rise_6 : decode cX0_rise 6 = .ok (.iconst 0, 1) := by decide +kernel
theorem dX0_rise_7 : decode cX0_rise 7 = .ok (.putfield 18, 3) := by decide +kernel
theorem dX0_rise_10 : decode cX0_rise 10 = .ok (.aload_n 0, 1) := by decide +kernel
theorem dX0_rise_11 : decode cX0_rise 11 = .ok (.iconst 0, 1) := by decide +kernel
theorem dX0_rise_12 : decode cX0_rise 12 = .ok (.putfield 24, 3) := by decide +kernel
theorem dX0_rise_15 : decode cX0_rise 15 = .ok (.return_, 1) := by decide +kernel
theorem dX0_part_0 : decode cX0_part 0 = .ok (.iload_n 1, 1) := by decide +kernel
theorem dX0_part_1 : decode cX0_part 1 = .ok (.tableswitch 60 0 4 #[35, 40, 45, 50, 55], 35) := by decide +kernel
theorem dX0_part_36 : decode cX0_part 36 = .ok (.aload_n 0, 1) := by decide +kernel
theorem dX0_part_37 : decode cX0_part 37 = .ok (.getfield 9, 3) := by decide +kernel
theorem dX0_part_40 : decode cX0_part 40 = .ok (.ireturn, 1) := by decide +kernel
theorem dX0_part_41 : decode cX0_part 41 = .ok (.aload_n 0, 1) := by decide +kernel
theorem dX0_part_42 : decode cX0_part 42 = .ok (.getfield 15, 3) := by decide +kernel
theorem dX0_part_45 : decode cX0_part 45 = .ok (.ireturn, 1) := by decide +kernel
theorem dX0_part_46 : decode cX0_part 46 = .ok (.aload_n 0, 1) := by decide +kernel
theorem dX0_part_47 : decode cX0_part 47 = .ok (.getfield 18, 3) := by decide +kernel
theorem dX0_part_50 : decode cX0_part 50 = .ok (.ireturn, 1) := by decide +kernel
theorem dX0_part_51 : decode cX0_part 51 = .ok (.aload_n 0, 1) := by decide +kernel
theorem dX0_part_52 : decode cX0_part 52 = .ok (.getfield 21, 3) := by decide +kernel
theorem dX0_part_55 : decode cX0_part 55 = .ok (.ireturn, 1) := by decide +kernel
theorem dX0_part_56 : decode cX0_part 56 = .ok (.aload_n 0, 1) := by decide +kernel
theorem dX0_part_57 : decode cX0_part 57 = .ok (.getfield 24, 3) := by decide +kernel
theorem dX0_part_60 : decode cX0_part 60 = .ok (.ireturn, 1) := by decide +kernel
theorem dX0_part_61 : decode cX0_part 61 = .ok (.aload_n 0, 1) := by decide +kernel
theorem dX0_part_62 : decode cX0_part 62 = .ok (.getfield 27, 3) := by decide +kernel
theorem dX0_part_65 : decode cX0_part 65 = .ok (.ireturn, 1) := by decide +kernel
theorem dX0_becomes_0 : decode cX0_becomes 0 = .ok (.iload_n 1, 1) := by decide +kernel
theorem dX0_becomes_1 : decode cX0_becomes 1 = .ok (.tableswitch 63 1 4 #[31, 39, 47, 55], 31) := by decide +kernel
theorem dX0_becomes_32 : decode cX0_becomes 32 = .ok (.aload_n 0, 1) := by decide +kernel
theorem dX0_becomes_33 : decode cX0_becomes 33 = .ok (.iload_n 2, 1) := by decide +kernel
theorem dX0_becomes_34 : decode cX0_becomes 34 = .ok (.putfield 15, 3) := by decide +kernel
theorem dX0_becomes_37 : decode cX0_becomes 37 = .ok (.goto 32, 3) := by decide +kernel
theorem dX0_becomes_40 : decode cX0_becomes 40 = .ok (.aload_n 0, 1) := by decide +kernel
theorem dX0_becomes_41 : decode cX0_becomes 41 = .ok (.iload_n 2, 1) := by decide +kernel
theorem dX0_becomes_42 : decode cX0_becomes 42 = .ok (.putfield 18, 3) := by decide +kernel
theorem dX0_becomes_45 : decode cX0_becomes 45 = .ok (.goto 24, 3) := by decide +kernel
theorem dX0_becomes_48 : decode cX0_becomes 48 = .ok (.aload_n 0, 1) := by decide +kernel
theorem dX0_becomes_49 : decode cX0_becomes 49 = .ok (.iload_n 2, 1) := by decide +kernel
theorem dX0_becomes_50 : decode cX0_becomes 50 = .ok (.putfield 21, 3) := by decide +kernel
theorem dX0_becomes_53 : decode cX0_becomes 53 = .ok (.goto 16, 3) := by decide +kernel
theorem dX0_becomes_56 : decode cX0_becomes 56 = .ok (.aload_n 0, 1) := by decide +kernel
theorem dX0_becomes_57 : decode cX0_becomes 57 = .ok (.iload_n 2, 1) := by decide +kernel
theorem dX0_becomes_58 : decode cX0_becomes 58 = .ok (.putfield 24, 3) := by decide +kernel
theorem dX0_becomes_61 : decode cX0_becomes 61 = .ok (.goto 8, 3) := by decide +kernel
theorem dX0_becomes_64 : decode cX0_becomes 64 = .ok (.aload_n 0, 1) := by decide +kernel
theorem dX0_becomes_65 : decode cX0_becomes 65 = .ok (.iload_n 2, 1) := by decide +kernel
theorem dX0_becomes_66 : decode cX0_becomes 66 = .ok (.putfield 27, 3) := by decide +kernel
theorem dX0_becomes_69 : decode cX0_becomes 69 = .ok (.return_, 1) := by decide +kernel
theorem dX0_isOf_0 : decode cX0_isOf 0 = .ok (.aload_n 0, 1) := by decide +kernel
theorem dX0_isOf_1 : decode cX0_isOf 1 = .ok (.getfield 9, 3) := by decide +kernel
theorem dX0_isOf_4 : decode cX0_isOf 4 = .ok (.istore_n 2, 1) := by decide +kernel
theorem dX0_isOf_5 : decode cX0_isOf 5 = .ok (.iconst 0, 1) := by decide +kernel
theorem dX0_isOf_6 : decode cX0_isOf 6 = .ok (.istore_n 3, 1) := by decide +kernel
theorem dX0_isOf_7 : decode cX0_isOf 7 = .ok (.iload_n 3, 1) := by decide +kernel
theorem dX0_isOf_8 : decode cX0_isOf 8 = .ok (.bipush 6, 2) := by decide +kernel
theorem dX0_isOf_10 : decode cX0_isOf 10 = .ok (.if_icmp .ge 26, 3) := by decide +kernel
theorem dX0_isOf_13 : decode cX0_isOf 13 = .ok (.iload_n 2, 1) := by decide +kernel
theorem dX0_isOf_14 : decode cX0_isOf 14 = .ok (.ifCond .lt 22, 3) := by decide +kernel
theorem dX0_isOf_17 : decode cX0_isOf 17 = .ok (.iload_n 2, 1) := by decide +kernel
theorem dX0_isOf_18 : decode cX0_isOf 18 = .ok (.iload_n 1, 1) := by decide +kernel
theorem dX0_isOf_19 : decode cX0_isOf 19 = .ok (.if_icmp .ne 5, 3) := by decide +kernel
theorem dX0_isOf_22 : decode cX0_isOf 22 = .ok (.iconst 1, 1) := by decide +kernel
theorem dX0_isOf_23 : decode cX0_isOf 23 = .ok (.ireturn, 1) := by decide +kernel
theorem dX0_isOf_24 : decode cX0_isOf 24 = .ok (.getstatic 34, 3) := by decide +kernel
theorem dX0_isOf_27 : decode cX0_isOf 27 = .ok (.iload_n 2, 1) := by decide +kernel
theorem dX0_isOf_28 : decode cX0_isOf 28 = .ok (.iaload, 1) := by decide +kernel
theorem dX0_isOf_29 : decode cX0_isOf 29 = .ok (.istore_n 2, 1) := by decide +kernel
theorem dX0_isOf_30 : decode cX0_isOf 30 = .ok (.iinc 3 1, 3) := by decide +kernel
theorem dX0_isOf_33 : decode cX0_isOf 33 = .ok (.goto (-26), 3) := by decide +kernel
theorem dX0_isOf_36 : decode cX0_isOf 36 = .ok (.iconst 0, 1) := by decide +kernel
theorem dX0_isOf_37 : decode cX0_isOf 37 = .ok (.ireturn, 1) := by decide +kernel
theorem dX0_pushing_0 : decode cX0_pushing 0 = .ok (.iconst 0, 1) := by decide +kernel
theorem dX0_pushing_1 : decode cX0_pushing 1 = .ok (.sipush 999, 3) := by decide +kernel
theorem dX0_pushing_4 : decode cX0_pushing 4 = .ok (.iload_n 1, 1) := by decide +kernel
theorem dX0_pushing_5 : decode cX0_pushing 5 = .ok (.invokestatic 38, 3) := by decide +kernel
theorem dX0_pushing_8 : decode cX0_pushing 8 = .ok (.invokestatic 44, 3) := by decide +kernel
theorem dX0_pushing_11 : decode cX0_pushing 11 = .ok (.istore_n 2, 1) := by decide +kernel
theorem dX0_pushing_12 : decode cX0_pushing 12 = .ok (.aload_n 0, 1) := by decide +kernel
theorem dX0_pushing_13 : decode cX0_pushing 13 = .ok (.getfield 9, 3) := by decide +kernel
theorem dX0_pushing_16 : decode cX0_pushing 16 = .ok (.tableswitch 62 1 5 #[36, 50, 40, 54, 60], 36) := by decide +kernel
theorem dX0_pushing_52 : decode cX0_pushing 52 = .ok (.iload_n 2, 1) := by decide +kernel
theorem dX0_pushing_53 : decode cX0_pushing 53 = .ok (.iconst 2, 1) := by decide +kernel
theorem dX0_pushing_54 : decode cX0_pushing 54 = .ok (.idiv, 1) := by decide +kernel
theorem dX0_pushing_55 : decode cX0_pushing 55 = .ok (.ireturn, 1) := by decide +kernel
theorem dX0_pushing_56 : decode cX0_pushing 56 = .ok (.iconst 0, 1) := by decide +kernel
theorem dX0_pushing_57 : decode cX0_pushing 57 = .ok (.iload_n 2, 1) := by decide +kernel
theorem dX0_pushing_58 : decode cX0_pushing 58 = .ok (.iconst 2, 1) := by decide +kernel
theorem dX0_pushing_59 : decode cX0_pushing 59 = .ok (.idiv, 1) := by decide +kernel
theorem dX0_pushing_60 : decode cX0_pushing 60 = .ok (.iconst 5, 1) := by decide +kernel
theorem dX0_pushing_61 : decode cX0_pushing 61 = .ok (.isub, 1) := by decide +kernel
theorem dX0_pushing_62 : decode cX0_pushing 62 = .ok (.invokestatic 44, 3) := by decide +kernel
theorem dX0_pushing_65 : decode cX0_pushing 65 = .ok (.ireturn, 1) := by decide +kernel
theorem dX0_pushing_66 : decode cX0_pushing 66 = .ok (.iload_n 2, 1) := by decide +kernel
theorem dX0_pushing_67 : decode cX0_pushing 67 = .ok (.iconst 4, 1) := by decide +kernel
theorem dX0_pushing_68 : decode cX0_pushing 68 = .ok (.iadd, 1) := by decide +kernel
theorem dX0_pushing_69 : decode cX0_pushing 69 = .ok (.ireturn, 1) := by decide +kernel
theorem dX0_pushing_70 : decode cX0_pushing 70 = .ok (.iconst 2, 1) := by decide +kernel
theorem dX0_pushing_71 : decode cX0_pushing 71 = .ok (.iload_n 2, 1) := by decide +kernel
theorem dX0_pushing_72 : decode cX0_pushing 72 = .ok (.iconst 4, 1) := by decide +kernel
theorem dX0_pushing_73 : decode cX0_pushing 73 = .ok (.iadd, 1) := by decide +kernel
theorem dX0_pushing_74 : decode cX0_pushing 74 = .ok (.imul, 1) := by decide +kernel
theorem dX0_pushing_75 : decode cX0_pushing 75 = .ok (.ireturn, 1) := by decide +kernel
theorem dX0_pushing_76 : decode cX0_pushing 76 = .ok (.iconst 0, 1) := by decide +kernel
theorem dX0_pushing_77 : decode cX0_pushing 77 = .ok (.ireturn, 1) := by decide +kernel
theorem dX0_pushing_78 : decode cX0_pushing 78 = .ok (.iload_n 2, 1) := by decide +kernel
theorem dX0_pushing_79 : decode cX0_pushing 79 = .ok (.ireturn, 1) := by decide +kernel
theorem dX0_bearing_0 : decode cX0_bearing 0 = .ok (.aload_n 0, 1) := by decide +kernel
theorem dX0_bearing_1 : decode cX0_bearing 1 = .ok (.getfield 21, 3) := by decide +kernel
theorem dX0_bearing_4 : decode cX0_bearing 4 = .ok (.bipush 10, 2) := by decide +kernel
theorem dX0_bearing_6 : decode cX0_bearing 6 = .ok (.aload_n 0, 1) := by decide +kernel
theorem dX0_bearing_7 : decode cX0_bearing 7 = .ok (.getfield 27, 3) := by decide +kernel
theorem dX0_bearing_10 : decode cX0_bearing 10 = .ok (.imul, 1) := by decide +kernel
theorem dX0_bearing_11 : decode cX0_bearing 11 = .ok (.iadd, 1) := by decide +kernel
theorem dX0_bearing_12 : decode cX0_bearing 12 = .ok (.istore_n 1, 1) := by decide +kernel
theorem dX0_bearing_13 : decode cX0_bearing 13 = .ok (.aload_n 0, 1) := by decide +kernel
theorem dX0_bearing_14 : decode cX0_bearing 14 = .ok (.getfield 9, 3) := by decide +kernel
theorem dX0_bearing_17 : decode cX0_bearing 17 = .ok (.tableswitch 47 1 5 #[35, 39, 35, 39, 43], 35) := by decide +kernel
theorem dX0_bearing_52 : decode cX0_bearing 52 = .ok (.iload_n 1, 1) := by decide +kernel
theorem dX0_bearing_53 : decode cX0_bearing 53 = .ok (.iconst 5, 1) := by decide +kernel
theorem dX0_bearing_54 : decode cX0_bearing 54 = .ok (.iadd, 1) := by decide +kernel
theorem dX0_bearing_55 : decode cX0_bearing 55 = .ok (.ireturn, 1) := by decide +kernel
theorem dX0_bearing_56 : decode cX0_bearing 56 = .ok (.iconst 2, 1) := by decide +kernel
theorem dX0_bearing_57 : decode cX0_bearing 57 = .ok (.iload_n 1, 1) := by decide +kernel
theorem dX0_bearing_58 : decode cX0_bearing 58 = .ok (.imul, 1) := by decide +kernel
theorem dX0_bearing_59 : decode cX0_bearing 59 = .ok (.ireturn, 1) := by decide +kernel
theorem dX0_bearing_60 : decode cX0_bearing 60 = .ok (.sipush 999, 3) := by decide +kernel
theorem dX0_bearing_63 : decode cX0_bearing 63 = .ok (.ireturn, 1) := by decide +kernel
theorem dX0_bearing_64 : decode cX0_bearing 64 = .ok (.iload_n 1, 1) := by decide +kernel
theorem dX0_bearing_65 : decode cX0_bearing 65 = .ok (.ireturn, 1) := by decide +kernel
theorem dX0_worth_0 : decode cX0_worth 0 = .ok (.aload_n 0, 1) := by decide +kernel
theorem dX0_worth_1 : decode cX0_worth 1 = .ok (.getfield 9, 3) := by decide +kernel
theorem dX0_worth_4 : decode cX0_worth 4 = .ok (.tableswitch 75 1 5 #[36, 54, 44, 62, 72], 36) := by decide +kernel
theorem dX0_worth_40 : decode cX0_worth 40 = .ok (.aload_n 0, 1) := by decide +kernel
theorem dX0_worth_41 : decode cX0_worth 41 = .ok (.getfield 21, 3) := by decide +kernel
theorem dX0_worth_44 : decode cX0_worth 44 = .ok (.bipush 7, 2) := by decide +kernel
theorem dX0_worth_46 : decode cX0_worth 46 = .ok (.iadd, 1) := by decide +kernel
theorem dX0_worth_47 : decode cX0_worth 47 = .ok (.ireturn, 1) := by decide +kernel
theorem dX0_worth_48 : decode cX0_worth 48 = .ok (.iconst 2, 1) := by decide +kernel
theorem dX0_worth_49 : decode cX0_worth 49 = .ok (.aload_n 0, 1) := by decide +kernel
theorem dX0_worth_50 : decode cX0_worth 50 = .ok (.getfield 21, 3) := by decide +kernel
theorem dX0_worth_53 : decode cX0_worth 53 = .ok (.bipush 7, 2) := by decide +kernel
theorem dX0_worth_55 : decode cX0_worth 55 = .ok (.iadd, 1) := by decide +kernel
theorem dX0_worth_56 : decode cX0_worth 56 = .ok (.imul, 1) := by decide +kernel
theorem dX0_worth_57 : decode cX0_worth 57 = .ok (.ireturn, 1) := by decide +kernel
theorem dX0_worth_58 : decode cX0_worth 58 = .ok (.bipush 99, 2) := by decide +kernel
theorem dX0_worth_60 : decode cX0_worth 60 = .ok (.aload_n 0, 1) := by decide +kernel
theorem dX0_worth_61 : decode cX0_worth 61 = .ok (.getfield 21, 3) := by decide +kernel
theorem dX0_worth_64 : decode cX0_worth 64 = .ok (.isub, 1) := by decide +kernel
theorem dX0_worth_65 : decode cX0_worth 65 = .ok (.ireturn, 1) := by decide +kernel
theorem dX0_worth_66 : decode cX0_worth 66 = .ok (.bipush 99, 2) := by decide +kernel
theorem dX0_worth_68 : decode cX0_worth 68 = .ok (.aload_n 0, 1) := by decide +kernel
theorem dX0_worth_69 : decode cX0_worth 69 = .ok (.getfield 21, 3) := by decide +kernel
theorem dX0_worth_72 : decode cX0_worth 72 = .ok (.isub, 1) := by decide +kernel
theorem dX0_worth_73 : decode cX0_worth 73 = .ok (.iconst 5, 1) := by decide +kernel
theorem dX0_worth_74 : decode cX0_worth 74 = .ok (.isub, 1) := by decide +kernel
theorem dX0_worth_75 : decode cX0_worth 75 = .ok (.ireturn, 1) := by decide +kernel
theorem dX0_worth_76 : decode cX0_worth 76 = .ok (.bipush 6, 2) := by decide +kernel
theorem dX0_worth_78 : decode cX0_worth 78 = .ok (.ireturn, 1) := by decide +kernel
theorem dX0_worth_79 : decode cX0_worth 79 = .ok (.aload_n 0, 1) := by decide +kernel
theorem dX0_worth_80 : decode cX0_worth 80 = .ok (.getfield 21, 3) := by decide +kernel
theorem dX0_worth_83 : decode cX0_worth 83 = .ok (.ireturn, 1) := by decide +kernel
