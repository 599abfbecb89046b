theorem dX4_init_0 : decode cX4_init 0 = .ok (.aload_n 0, 1) := by decide +kernel
theorem dX4_init_1 : decode cX4_init 1 = .ok (.invokespecial 3, 3) := by decide +kernel
theorem dX4_init_4 : decode cX4_init 4 = .ok (.aload_n 0, 1) := by decide +kernel
theorem dX4_init_5 : decode cX4_init 5 = .ok (.bipush 9, 2) := by decide +kernel
theorem dX4_init_7 : decode cX4_init 7 = .ok (.anewarray 9, 3) := by decide +kernel
theorem dX4_init_10 : decode cX4_init 10 = .ok (.putfield 11, 3) := by decide +kernel
theorem dX4_init_13 : decode cX4_init 13 = .ok (.aload_n 0, 1) := by decide +kernel
theorem dX4_init_14 : decode cX4_init 14 = .ok (.bipush 14, 2) := by decide +kernel
theorem dX4_init_16 : decode cX4_init 16 = .ok (.anewarray 17, 3) := by decide +kernel
theorem dX4_init_19 : decode cX4_init 19 = .ok (.putfield 19, 3) := by decide +kernel
theorem dX4_init_22 : decode cX4_init 22 = .ok (.aload_n 0, 1) := by decide +kernel
theorem dX4_init_23 : decode cX4_init 23 = .ok (.iconst 3, 1) := by decide +kernel
theorem dX4_init_24 : decode cX4_init 24 = .ok (.anewarray 17, 3) := by decide +kernel
theorem dX4_init_27 : decode cX4_init 27 = .ok (.putfield 23, 3) := by decide +kernel
theorem dX4_init_30 : decode cX4_init 30 = .ok (.aload_n 0, 1) := by decide +kernel
theorem dX4_init_31 : decode cX4_init 31 = .ok (.bipush 9, 2) := by decide +kernel
theorem dX4_init_33 : decode cX4_init 33 = .ok (.newarray .int, 2) := by decide +kernel
theorem dX4_init_35 : decode cX4_init 35 = .ok (.putfield 26, 3) := by decide +kernel
theorem dX4_init_38 : decode cX4_init 38 = .ok (.aload_n 0, 1) := by decide +kernel
theorem dX4_init_39 : decode cX4_init 39 = .ok (.bipush 9, 2) := by decide +kernel
theorem dX4_init_41 : decode cX4_init 41 = .ok (.newarray .int, 2) := by decide +kernel
theorem dX4_init_43 : decode cX4_init 43 = .ok (.putfield 30, 3) := by decide +kernel
theorem dX4_init_46 : decode cX4_init 46 = .ok (.aload_n 0, 1) := by decide +kernel
theorem dX4_init_47 : decode cX4_init 47 = .ok (.bipush 9, 2) := by decide +kernel
theorem dX4_init_49 : decode cX4_init 49 = .ok (.newarray .int, 2) := by decide +kernel
theorem dX4_init_51 : decode cX4_init 51 = .ok (.putfield 33, 3) := by decide +kernel
theorem dX4_init_54 : decode cX4_init 54 = .ok (.aload_n 0, 1) := by decide +kernel
theorem dX4_init_55 : decode cX4_init 55 = .ok (.iconst 0, 1) := by decide +kernel
theorem dX4_init_56 : decode cX4_init 56 = .ok (.putfield 36, 3) := by decide +kernel
theorem dX4_init_59 : decode cX4_init 59 = .ok (.aload_n 0, 1) := by decide +kernel
theorem dX4_init_60 : decode cX4_init 60 = .ok (.iconst 0, 1) := by decide +kernel
theorem dX4_init_61 : decode cX4_init 61 = .ok (.putfield 40, 3) := by decide +kernel
theorem dX4_init_64 : decode cX4_init 64 = .ok (.aload_n 0, 1) := by decide +kernel
theorem dX4_init_65 : decode cX4_init 65 = .ok (.iconst 0, 1) := by decide +kernel
theorem dX4_init_66 : decode cX4_init 66 = .ok (.putfield 43, 3) := by decide +kernel
theorem dX4_init_69 : decode cX4_init 69 = .ok (.aload_n 0, 1) := by decide +kernel
theorem dX4_init_70 : decode cX4_init 70 = .ok (.iconst 0, 1) := by decide +kernel
theorem dX4_init_71 : decode cX4_init 71 = .ok (.putfield 46, 3) := by decide +kernel
theorem dX4_init_74 : decode cX4_init 74 = .ok (.aload_n 0, 1) := by decide +kernel
theorem dX4_init_75 : decode cX4_init 75 = .ok (.iconst 0, 1) := by decide +kernel
theorem dX4_init_76 : decode cX4_init 76 = .ok (.putfield 49, 3) := by decide +kernel
theorem dX4_init_79 : decode cX4_init 79 = .ok (.aload_n 0, 1) := by decide +kernel
theorem dX4_init_80 : decode cX4_init 80 = .ok (.iconst 1, 1) := by decide +kernel
theorem dX4_init_81 : decode cX4_init 81 = .ok (.putfield 52, 3) := by decide +kernel
theorem dX4_init_84 : decode cX4_init 84 = .ok (.iconst 0, 1) := by decide +kernel
theorem dX4_init_85 : decode cX4_init 85 = .ok (.istore_n 1, 1) := by decide +kernel
theorem dX4_init_86 : decode cX4_init 86 = .ok (.iload_n 1, 1) := by decide +kernel
theorem dX4_init_87 : decode cX4_init 87 = .ok (.bipush 9, 2) := by decide +kernel
theorem dX4_init_89 : decode cX4_init 89 = .ok (.if_icmp .ge 22, 3) := by decide +kernel
theorem dX4_init_92 : decode cX4_init 92 = .ok (.aload_n 0, 1) := by decide +kernel
theorem dX4_init_93 : decode cX4_init 93 = .ok (.getfield 11, 3) := by decide +kernel
theorem dX4_init_96 : decode cX4_init 96 = .ok (.iload_n 1, 1) := by decide +kernel
theorem dX4_init_97 : decode cX4_init 97 = .ok (.new 9, 3) := by decide +kernel
theorem dX4_init_100 : decode cX4_init 100 = .ok (.dup, 1) := by decide +kernel
theorem dX4_init_101 : decode cX4_init 101 = .ok (.invokespecial 55, 3) := by decide +kernel
theorem dX4_init_104 : decode cX4_init 104 = .ok (.aastore, 1) := by decide +kernel
theorem dX4_init_105 : decode cX4_init 105 = .ok (.iinc 1 1, 3) := by decide +kernel
theorem dX4_init_108 : decode cX4_init 108 = .ok (.goto (-22), 3) := by decide +kernel
theorem dX4_init_111 : decode cX4_init 111 = .ok (.return_, 1) := by decide +kernel
theorem dX4_beLike_0 : decode cX4_beLike 0 = .ok (.iconst 0, 1) := by decide +kernel
theorem dX4_beLike_1 : decode cX4_beLike 1 = .ok (.istore_n 2, 1) := by decide +kernel
theorem dX4_beLike_2 : decode cX4_beLike 2 = .ok (.iload_n 2, 1) := by decide +kernel
theorem dX4_beLike_3 : decode cX4_beLike 3 = .ok (.aload_n 1, 1) := by decide +kernel
theorem dX4_beLike_4 : decode cX4_beLike 4 = .ok (.getfield 36, 3) := by decide +kernel
theorem dX4_beLike_7 : decode cX4_beLike 7 = .ok (.if_icmp .ge 24, 3) := by decide +kernel
theorem dX4_beLike_10 : decode cX4_beLike 10 = .ok (.aload_n 0, 1) := by decide +kernel
theorem dX4_beLike_11 : decode cX4_beLike 11 = .ok (.getfield 11, 3) := by decide +kernel
theorem dX4_beLike_14 : decode cX4_beLike 14 = .ok (.iload_n 2, 1) := by decide +kernel
theorem dX4_beLike_15 : decode cX4_beLike 15 = .ok (.aaload, 1) := by decide +kernel
theorem dX4_beLike_16 : decode cX4_beLike 16 = .ok (.aload_n 1, 1) := by decide +kernel
theorem dX4_beLike_17 : decode cX4_beLike 17 = .ok (.getfield 11, 3) := by decide +kernel
theorem dX4_beLike_20 : decode cX4_beLike 20 = .ok (.iload_n 2, 1) := by decide +kernel
theorem dX4_beLike_21 : decode cX4_beLike 21 = .ok (.aaload, 1) := by decide +kernel
theorem dX4_beLike_22 : decode cX4_beLike 22 = .ok (.invokevirtual 56, 3) := by decide +kernel
theorem dX4_beLike_25 : decode cX4_beLike 25 = .ok (.iinc 2 1, 3) := by decide +kernel
theorem dX4_beLike_28 : decode cX4_beLike 28 = .ok (.goto (-26), 3) := by decide +kernel
theorem dX4_beLike_31 : decode cX4_beLike 31 = .ok (.iconst 0, 1) := by decide +kernel
theorem dX4_beLike_32 : decode cX4_beLike 32 = .ok (.istore_n 2, 1) := by decide +kernel
theorem dX4_beLike_33 : decode cX4_beLike 33 = .ok (.iload_n 2, 1) := by decide +kernel
theorem dX4_beLike_34 : decode cX4_beLike 34 = .ok (.aload_n 1, 1) := by decide +kernel
theorem dX4_beLike_35 : decode cX4_beLike 35 = .ok (.getfield 40, 3) := by decide +kernel
theorem dX4_beLike_38 : decode cX4_beLike 38 = .ok (.if_icmp .ge 21, 3) := by decide +kernel
theorem dX4_beLike_41 : decode cX4_beLike 41 = .ok (.aload_n 0, 1) := by decide +kernel
theorem dX4_beLike_42 : decode cX4_beLike 42 = .ok (.getfield 19, 3) := by decide +kernel
theorem dX4_beLike_45 : decode cX4_beLike 45 = .ok (.iload_n 2, 1) := by decide +kernel
theorem dX4_beLike_46 : decode cX4_beLike 46 = .ok (.aload_n 1, 1) := by decide +kernel
theorem dX4_beLike_47 : decode cX4_beLike 47 = .ok (.getfield 19, 3) := by decide +kernel
theorem dX4_beLike_50 : decode cX4_beLike 50 = .ok (.iload_n 2, 1) := by decide +kernel
theorem dX4_beLike_51 : decode cX4_beLike 51 = .ok (.aaload, 1) := by decide +kernel
theorem dX4_beLike_52 : decode cX4_beLike 52 = .ok (.aastore, 1) := by decide +kernel
theorem dX4_beLike_53 : decode cX4_beLike 53 = .ok (.iinc 2 1, 3) := by decide +kernel
theorem dX4_beLike_56 : decode cX4_beLike 56 = .ok (.goto (-23), 3) := by decide +kernel
theorem dX4_beLike_59 : decode cX4_beLike 59 = .ok (.iconst 0, 1) := by decide +kernel
theorem dX4_beLike_60 : decode cX4_beLike 60 = .ok (.istore_n 2, 1) := by decide +kernel
theorem dX4_beLike_61 : decode cX4_beLike 61 = .ok (.iload_n 2, 1) := by decide +kernel
theorem dX4_beLike_62 : decode cX4_beLike 62 = .ok (.iconst 3, 1) := by decide +kernel
theorem dX4_beLike_63 : decode cX4_beLike 63 = .ok (.if_icmp .ge 21, 3) := by decide +kernel
theorem dX4_beLike_66 : decode cX4_beLike 66 = .ok (.aload_n 0, 1) := by decide +kernel
theorem dX4_beLike_67 : decode cX4_beLike 67 = .ok (.getfield 23, 3) := by decide +kernel
theorem dX4_beLike_70 : decode cX4_beLike 70 = .ok (.iload_n 2, 1) := by decide +kernel
theorem dX4_beLike_71 : decode cX4_beLike 71 = .ok (.aload_n 1, 1) := by decide +kernel
theorem dX4_beLike_72 : decode cX4_beLike 72 = .ok (.getfield 23, 3) := by decide +kernel
theorem dX4_beLike_75 : decode cX4_beLike 75 = .ok (.iload_n 2, 1) := by decide +kernel
theorem dX4_beLike_76 : decode cX4_beLike 76 = .ok (.aaload, 1) := by decide +kernel
theorem dX4_beLike_77 : decode cX4_beLike 77 = .ok (.aastore, 1) := by decide +kernel
theorem dX4_beLike_78 : decode cX4_beLike 78 = .ok (.iinc 2 1, 3) := by decide +kernel
theorem dX4_beLike_81 : decode cX4_beLike 81 = .ok (.goto (-20), 3) := by decide +kernel
theorem dX4_beLike_84 : decode cX4_beLike 84 = .ok (.aload_n 0, 1) := by decide +kernel
theorem dX4_beLike_85 : decode cX4_beLike 85 = .ok (.aload_n 1, 1) := by decide +kernel
theorem dX4_beLike_86 : decode cX4_beLike 86 = .ok (.getfield 36, 3) := by decide +kernel
theorem dX4_beLike_89 : decode cX4_beLike 89 = .ok (.putfield 36, 3) := by decide +kernel
theorem dX4_beLike_92 : decode cX4_beLike 92 = .ok (.aload_n 0, 1) := by decide +kernel
theorem dX4_beLike_93 : decode cX4_beLike 93 = .ok (.aload_n 1, 1) := by decide +kernel
theorem dX4_beLike_94 : decode cX4_beLike 94 = .ok (.getfield 40, 3) := by decide +kernel
theorem dX4_beLike_97 : decode cX4_beLike 97 = .ok (.putfield 40, 3) := by decide +kernel
theorem dX4_beLike_100 : decode cX4_beLike 100 = .ok (.aload_n 0, 1) := by decide +kernel
theorem dX4_beLike_101 : decode cX4_beLike 101 = .ok (.aload_n 1, 1) := by decide +kernel
theorem dX4_beLike_102 : decode cX4_beLike 102 = .ok (.getfield 43, 3) := by decide +kernel
theorem dX4_beLike_105 : decode cX4_beLike 105 = .ok (.putfield 43, 3) := by decide +kernel
theorem dX4_beLike_108 : decode cX4_beLike 108 = .ok (.aload_n 0, 1) := by decide +kernel
theorem dX4_beLike_109 : decode cX4_beLike 109 = .ok (.aload_n 1, 1) := by decide +kernel
theorem dX4_beLike_110 : decode cX4_beLike 110 = .ok (.getfield 46, 3) := by decide +kernel
theorem dX4_beLike_113 : decode cX4_beLike 113 = .ok (.putfield 46, 3) := by decide +kernel
theorem dX4_beLike_116 : decode cX4_beLike 116 = .ok (.aload_n 0, 1) := by decide +kernel
theorem dX4_beLike_117 : decode cX4_beLike 117 = .ok (.aload_n 1, 1) := by decide +kernel
theorem dX4_beLike_118 : decode cX4_beLike 118 = .ok (.getfield 49, 3) := by decide +kernel
theorem dX4_beLike_121 : decode cX4_beLike 121 = .ok (.putfield 49, 3) := by decide +kernel
theorem dX4_beLike_124 : decode cX4_beLike 124 = .ok (.aload_n 0, 1) := by decide +kernel
theorem dX4_beLike_125 : decode cX4_beLike 125 = .ok (.aload_n 1, 1) := by decide +kernel
theorem dX4_beLike_126 : decode cX4_beLike 126 = .ok (.getfield 52, 3) := by decide +kernel
theorem dX4_beLike_129 : decode cX4_beLike 129 = .ok (.putfield 52, 3) := by decide +kernel
theorem dX4_beLike_132 : decode cX4_beLike 132 = .ok (.return_, 1) := by decide +kernel
theorem dX4_build_0 : decode cX4_build 0 = .ok (.aload_n 0, 1) := by decide +kernel
theorem dX4_build_1 : decode cX4_build 1 = .ok (.getfield 36, 3) := by decide +kernel
theorem dX4_build_4 : decode cX4_build 4 = .ok (.bipush 9, 2) := by decide +kernel
theorem dX4_build_6 : decode cX4_build 6 = .ok (.if_icmp .lt 4, 3) := by decide +kernel
theorem dX4_build_9 : decode cX4_build 9 = .ok (.return_, 1) := by decide +kernel
theorem dX4_build_10 : decode cX4_build 10 = .ok (.aload_n 0, 1) := by decide +kernel
theorem dX4_build_11 : decode cX4_build 11 = .ok (.getfield 11, 3) := by decide +kernel
theorem dX4_build_14 : decode cX4_build 14 = .ok (.aload_n 0, 1) := by decide +kernel
theorem dX4_build_15 : decode cX4_build 15 = .ok (.getfield 36, 3) := by decide +kernel
theorem dX4_build_18 : decode cX4_build 18 = .ok (.aaload, 1) := by decide +kernel
theorem dX4_build_19 : decode cX4_build 19 = .ok (.astore 5, 2) := by decide +kernel
theorem dX4_build_21 : decode cX4_build 21 = .ok (.aload 5, 2) := by decide +kernel
theorem dX4_build_23 : decode cX4_build 23 = .ok (.invokevirtual 60, 3) := by decide +kernel
theorem dX4_build_26 : decode cX4_build 26 = .ok (.aload 5, 2) := by decide +kernel
theorem dX4_build_28 : decode cX4_build 28 = .ok (.iload_n 1, 1) := by decide +kernel
theorem dX4_build_29 : decode cX4_build 29 = .ok (.putfield 63, 3) := by decide +kernel
theorem dX4_build_32 : decode cX4_build 32 = .ok (.aload 5, 2) := by decide +kernel
theorem dX4_build_34 : decode cX4_build 34 = .ok (.iload_n 2, 1) := by decide +kernel
theorem dX4_build_35 : decode cX4_build 35 = .ok (.putfield 66, 3) := by decide +kernel
theorem dX4_build_38 : decode cX4_build 38 = .ok (.aload 5, 2) := by decide +kernel
theorem dX4_build_40 : decode cX4_build 40 = .ok (.iload_n 3, 1) := by decide +kernel
theorem dX4_build_41 : decode cX4_build 41 = .ok (.putfield 69, 3) := by decide +kernel
theorem dX4_build_44 : decode cX4_build 44 = .ok (.aload 5, 2) := by decide +kernel
theorem dX4_build_46 : decode cX4_build 46 = .ok (.iload 4, 2) := by decide +kernel
theorem dX4_build_48 : decode cX4_build 48 = .ok (.putfield 72, 3) := by decide +kernel
theorem dX4_build_51 : decode cX4_build 51 = .ok (.aload 5, 2) := by decide +kernel
theorem dX4_build_53 : decode cX4_build 53 = .ok (.iconst 0, 1) := by decide +kernel
theorem dX4_build_54 : decode cX4_build 54 = .ok (.putfield 75, 3) := by decide +kernel
theorem dX4_build_57 : decode cX4_build 57 = .ok (.aload_n 0, 1) := by decide +kernel
theorem dX4_build_58 : decode cX4_build 58 = .ok (.dup, 1) := by decide +kernel
theorem dX4_build_59 : decode cX4_build 59 = .ok (.getfield 36, 3) := by decide +kernel
theorem dX4_build_62 : decode cX4_build 62 = .ok (.iconst 1, 1) := by decide +kernel
theorem dX4_build_63 : decode cX4_build 63 = .ok (.iadd, 1) := by decide +kernel
theorem dX4_build_64 : decode cX4_build 64 = .ok (.putfield 36, 3) := by decide +kernel
theorem dX4_build_67 : decode cX4_build 67 = .ok (.return_, 1) := by decide +kernel
theorem dX4_buildByLot_0 : decode cX4_buildByLot 0 = .ok (.aload_n 0, 1) := by decide +kernel
theorem dX4_buildByLot_1 : decode cX4_buildByLot 1 = .ok (.invokevirtual 78, 3) := by decide +kernel
theorem dX4_buildByLot_4 : decode cX4_buildByLot 4 = .ok (.bipush 6, 2) := by decide +kernel
theorem dX4_buildByLot_6 : decode cX4_buildByLot 6 = .ok (.irem, 1) := by decide +kernel
theorem dX4_buildByLot_7 : decode cX4_buildByLot 7 = .ok (.istore_n 1, 1) := by decide +kernel
theorem dX4_buildByLot_8 : decode cX4_buildByLot 8 = .ok (.iconst 1, 1) := by decide +kernel
theorem dX4_buildByLot_9 : decode cX4_buildByLot 9 = .ok (.aload_n 0, 1) := by decide +kernel
theorem dX4_buildByLot_10 : decode cX4_buildByLot 10 = .ok (.invokevirtual 78, 3) := by decide +kernel
theorem dX4_buildByLot_13 : decode cX4_buildByLot 13 = .ok (.bipush 60, 2) := by decide +kernel
theorem dX4_buildByLot_15 : decode cX4_buildByLot 15 = .ok (.irem, 1) := by decide +kernel
theorem dX4_buildByLot_16 : decode cX4_buildByLot 16 = .ok (.iadd, 1) := by decide +kernel
theorem dX4_buildByLot_17 : decode cX4_buildByLot 17 = .ok (.istore_n 2, 1) := by decide +kernel
theorem dX4_buildByLot_18 : decode cX4_buildByLot 18 = .ok (.aload_n 0, 1) := by decide +kernel
theorem dX4_buildByLot_19 : decode cX4_buildByLot 19 = .ok (.invokevirtual 78, 3) := by decide +kernel
theorem dX4_buildByLot_22 : decode cX4_buildByLot 22 = .ok (.bipush 41, 2) := by decide +kernel
theorem dX4_buildByLot_24 : decode cX4_buildByLot 24 = .ok (.irem, 1) := by decide +kernel
theorem dX4_buildByLot_25 : decode cX4_buildByLot 25 = .ok (.bipush 20, 2) := by decide +kernel
theorem dX4_buildByLot_27 : decode cX4_buildByLot 27 = .ok (.isub, 1) := by decide +kernel
theorem dX4_buildByLot_28 : decode cX4_buildByLot 28 = .ok (.istore_n 3, 1) := by decide +kernel
theorem dX4_buildByLot_29 : decode cX4_buildByLot 29 = .ok (.aload_n 0, 1) := by decide +kernel
theorem dX4_buildByLot_30 : decode cX4_buildByLot 30 = .ok (.invokevirtual 78, 3) := by decide +kernel
theorem dX4_buildByLot_33 : decode cX4_buildByLot 33 = .ok (.bipush 60, 2) := by decide +kernel
theorem dX4_buildByLot_35 : decode cX4_buildByLot 35 = .ok (.irem, 1) := by decide +kernel
theorem dX4_buildByLot_36 : decode cX4_buildByLot 36 = .ok (.istore 4, 2) := by decide +kernel
theorem dX4_buildByLot_38 : decode cX4_buildByLot 38 = .ok (.aload_n 0, 1) := by decide +kernel
theorem dX4_buildByLot_39 : decode cX4_buildByLot 39 = .ok (.iload_n 1, 1) := by decide +kernel
theorem dX4_buildByLot_40 : decode cX4_buildByLot 40 = .ok (.iload_n 2, 1) := by decide +kernel
theorem dX4_buildByLot_41 : decode cX4_buildByLot 41 = .ok (.iload_n 3, 1) := by decide +kernel
theorem dX4_buildByLot_42 : decode cX4_buildByLot 42 = .ok (.iload 4, 2) := by decide +kernel
theorem dX4_buildByLot_44 : decode cX4_buildByLot 44 = .ok (.invokevirtual 82, 3) := by decide +kernel
theorem dX4_buildByLot_47 : decode cX4_buildByLot 47 = .ok (.return_, 1) := by decide +kernel
theorem dX4_draw_0 : decode cX4_draw 0 = .ok (.aload_n 0, 1) := by decide +kernel
theorem dX4_draw_1 : decode cX4_draw 1 = .ok (.aload_n 0, 1) := by decide +kernel
theorem dX4_draw_2 : decode cX4_draw 2 = .ok (.getfield 52, 3) := by decide +kernel
theorem dX4_draw_5 : decode cX4_draw 5 = .ok (.ldc 86, 2) := by decide +kernel
theorem dX4_draw_7 : decode cX4_draw 7 = .ok (.imul, 1) := by decide +kernel
theorem dX4_draw_8 : decode cX4_draw 8 = .ok (.sipush 12345, 3) := by decide +kernel
theorem dX4_draw_11 : decode cX4_draw 11 = .ok (.iadd, 1) := by decide +kernel
theorem dX4_draw_12 : decode cX4_draw 12 = .ok (.putfield 52, 3) := by decide +kernel
theorem dX4_draw_15 : decode cX4_draw 15 = .ok (.aload_n 0, 1) := by decide +kernel
theorem dX4_draw_16 : decode cX4_draw 16 = .ok (.getfield 52, 3) := by decide +kernel
theorem dX4_draw_19 : decode cX4_draw 19 = .ok (.bipush 8, 2) := by decide +kernel
theorem dX4_draw_21 : decode cX4_draw 21 = .ok (.iushr, 1) := by decide +kernel
theorem dX4_draw_22 : decode cX4_draw 22 = .ok (.ireturn, 1) := by decide +kernel
theorem dX4_addText_0 : decode cX4_addText 0 = .ok (.aload_n 0, 1) := by decide +kernel
theorem dX4_addText_1 : decode cX4_addText 1 = .ok (.getfield 40, 3) := by decide +kernel
theorem dX4_addText_4 : decode cX4_addText 4 = .ok (.bipush 14, 2) := by decide +kernel
theorem dX4_addText_6 : decode cX4_addText 6 = .ok (.if_icmp .ge 18, 3) := by decide +kernel
theorem dX4_addText_9 : decode cX4_addText 9 = .ok (.aload_n 1, 1) := by decide +kernel
theorem dX4_addText_10 : decode cX4_addText 10 = .ok (.getfield 87, 3) := by decide +kernel
theorem dX4_addText_13 : decode cX4_addText 13 = .ok (.ifCond .lt 11, 3) := by decide +kernel
theorem dX4_addText_16 : decode cX4_addText 16 = .ok (.aload_n 1, 1) := by decide +kernel
theorem dX4_addText_17 : decode cX4_addText 17 = .ok (.getfield 87, 3) := by decide +kernel
theorem dX4_addText_20 : decode cX4_addText 20 = .ok (.iconst 3, 1) := by decide +kernel
theorem dX4_addText_21 : decode cX4_addText 21 = .ok (.if_icmp .lt 4, 3) := by decide +kernel
theorem dX4_addText_24 : decode cX4_addText 24 = .ok (.return_, 1) := by decide +kernel
theorem dX4_addText_25 : decode cX4_addText 25 = .ok (.aload_n 0, 1) := by decide +kernel
theorem dX4_addText_26 : decode cX4_addText 26 = .ok (.getfield 19, 3) := by decide +kernel
theorem dX4_addText_29 : decode cX4_addText 29 = .ok (.aload_n 0, 1) := by decide +kernel
theorem dX4_addText_30 : decode cX4_addText 30 = .ok (.getfield 40, 3) := by decide +kernel
theorem dX4_addText_33 : decode cX4_addText 33 = .ok (.aload_n 1, 1) := by decide +kernel
theorem dX4_addText_34 : decode cX4_addText 34 = .ok (.aastore, 1) := by decide +kernel
theorem dX4_addText_35 : decode cX4_addText 35 = .ok (.aload_n 0, 1) := by decide +kernel
theorem dX4_addText_36 : decode cX4_addText 36 = .ok (.getfield 23, 3) := by decide +kernel
theorem dX4_addText_39 : decode cX4_addText 39 = .ok (.aload_n 1, 1) := by decide +kernel
theorem dX4_addText_40 : decode cX4_addText 40 = .ok (.getfield 87, 3) := by decide +kernel
theorem dX4_addText_43 : decode cX4_addText 43 = .ok (.aload_n 1, 1) := by decide +kernel
theorem dX4_addText_44 : decode cX4_addText 44 = .ok (.aastore, 1) := by decide +kernel
theorem dX4_addText_45 : decode cX4_addText 45 = .ok (.aload_n 0, 1) := by decide +kernel
theorem dX4_addText_46 : decode cX4_addText 46 = .ok (.dup, 1) := by decide +kernel
theorem dX4_addText_47 : decode cX4_addText 47 = .ok (.getfield 40, 3) := by decide +kernel
theorem dX4_addText_50 : decode cX4_addText 50 = .ok (.iconst 1, 1) := by decide +kernel
theorem dX4_addText_51 : decode cX4_addText 51 = .ok (.iadd, 1) := by decide +kernel
theorem dX4_addText_52 : decode cX4_addText 52 = .ok (.putfield 40, 3) := by decide +kernel
theorem dX4_addText_55 : decode cX4_addText 55 = .ok (.return_, 1) := by decide +kernel
theorem dX4_takeWalls_0 : decode cX4_takeWalls 0 = .ok (.iconst 0, 1) := by decide +kernel
theorem dX4_takeWalls_1 : decode cX4_takeWalls 1 = .ok (.istore_n 2, 1) := by decide +kernel
theorem dX4_takeWalls_2 : decode cX4_takeWalls 2 = .ok (.iconst 0, 1) := by decide +kernel
theorem dX4_takeWalls_3 : decode cX4_takeWalls 3 = .ok (.istore_n 3, 1) := by decide +kernel
theorem dX4_takeWalls_4 : decode cX4_takeWalls 4 = .ok (.iload_n 3, 1) := by decide +kernel
theorem dX4_takeWalls_5 : decode cX4_takeWalls 5 = .ok (.aload_n 0, 1) := by decide +kernel
theorem dX4_takeWalls_6 : decode cX4_takeWalls 6 = .ok (.getfield 36, 3) := by decide +kernel
theorem dX4_takeWalls_9 : decode cX4_takeWalls 9 = .ok (.if_icmp .ge 82, 3) := by decide +kernel
theorem dX4_takeWalls_12 : decode cX4_takeWalls 12 = .ok (.iload_n 3, 1) := by decide +kernel
theorem dX4_takeWalls_13 : decode cX4_takeWalls 13 = .ok (.aload_n 1, 1) := by decide +kernel
theorem dX4_takeWalls_14 : decode cX4_takeWalls 14 = .ok (.getfield 90, 3) := by decide +kernel
theorem dX4_takeWalls_17 : decode cX4_takeWalls 17 = .ok (.if_icmp .ge 74, 3) := by decide +kernel
theorem dX4_takeWalls_20 : decode cX4_takeWalls 20 = .ok (.aload_n 1, 1) := by decide +kernel
theorem dX4_takeWalls_21 : decode cX4_takeWalls 21 = .ok (.iload_n 3, 1) := by decide +kernel
theorem dX4_takeWalls_22 : decode cX4_takeWalls 22 = .ok (.invokevirtual 93, 3) := by decide +kernel
theorem dX4_takeWalls_25 : decode cX4_takeWalls 25 = .ok (.ifCond .eq 60, 3) := by decide +kernel
theorem dX4_takeWalls_28 : decode cX4_takeWalls 28 = .ok (.getstatic 97, 3) := by decide +kernel
theorem dX4_takeWalls_31 : decode cX4_takeWalls 31 = .ok (.iconst 3, 1) := by decide +kernel
theorem dX4_takeWalls_32 : decode cX4_takeWalls 32 = .ok (.iaload, 1) := by decide +kernel
theorem dX4_takeWalls_33 : decode cX4_takeWalls 33 = .ok (.getstatic 100, 3) := by decide +kernel
theorem dX4_takeWalls_36 : decode cX4_takeWalls 36 = .ok (.iconst 3, 1) := by decide +kernel
theorem dX4_takeWalls_37 : decode cX4_takeWalls 37 = .ok (.iaload, 1) := by decide +kernel
theorem dX4_takeWalls_38 : decode cX4_takeWalls 38 = .ok (.aload_n 1, 1) := by decide +kernel
theorem dX4_takeWalls_39 : decode cX4_takeWalls 39 = .ok (.getfield 103, 3) := by decide +kernel
theorem dX4_takeWalls_42 : decode cX4_takeWalls 42 = .ok (.iload_n 3, 1) := by decide +kernel
theorem dX4_takeWalls_43 : decode cX4_takeWalls 43 = .ok (.iaload, 1) := by decide +kernel
theorem dX4_takeWalls_44 : decode cX4_takeWalls 44 = .ok (.invokestatic 106, 3) := by decide +kernel
theorem dX4_takeWalls_47 : decode cX4_takeWalls 47 = .ok (.invokestatic 112, 3) := by decide +kernel
theorem dX4_takeWalls_50 : decode cX4_takeWalls 50 = .ok (.istore 4, 2) := by decide +kernel
theorem dX4_takeWalls_52 : decode cX4_takeWalls 52 = .ok (.iload_n 2, 1) := by decide +kernel
theorem dX4_takeWalls_53 : decode cX4_takeWalls 53 = .ok (.iload 4, 2) := by decide +kernel
theorem dX4_takeWalls_55 : decode cX4_takeWalls 55 = .ok (.aload_n 0, 1) := by decide +kernel
theorem dX4_takeWalls_56 : decode cX4_takeWalls 56 = .ok (.getfield 11, 3) := by decide +kernel
theorem dX4_takeWalls_59 : decode cX4_takeWalls 59 = .ok (.iload_n 3, 1) := by decide +kernel
theorem dX4_takeWalls_60 : decode cX4_takeWalls 60 = .ok (.aaload, 1) := by decide +kernel
theorem dX4_takeWalls_61 : decode cX4_takeWalls 61 = .ok (.getfield 72, 3) := by decide +kernel
theorem dX4_takeWalls_64 : decode cX4_takeWalls 64 = .ok (.if_icmp .ne 7, 3) := by decide +kernel
theorem dX4_takeWalls_67 : decode cX4_takeWalls 67 = .ok (.iconst 0, 1) := by decide +kernel
theorem dX4_takeWalls_68 : decode cX4_takeWalls 68 = .ok (.goto 4, 3) := by decide +kernel
theorem dX4_takeWalls_71 : decode cX4_takeWalls 71 = .ok (.iconst 1, 1) := by decide +kernel
theorem dX4_takeWalls_72 : decode cX4_takeWalls 72 = .ok (.iadd, 1) := by decide +kernel
theorem dX4_takeWalls_73 : decode cX4_takeWalls 73 = .ok (.istore_n 2, 1) := by decide +kernel
theorem dX4_takeWalls_74 : decode cX4_takeWalls 74 = .ok (.aload_n 0, 1) := by decide +kernel
theorem dX4_takeWalls_75 : decode cX4_takeWalls 75 = .ok (.getfield 11, 3) := by decide +kernel
theorem dX4_takeWalls_78 : decode cX4_takeWalls 78 = .ok (.iload_n 3, 1) := by decide +kernel
theorem dX4_takeWalls_79 : decode cX4_takeWalls 79 = .ok (.aaload, 1) := by decide +kernel
theorem dX4_takeWalls_80 : decode cX4_takeWalls 80 = .ok (.iload 4, 2) := by decide +kernel
theorem dX4_takeWalls_82 : decode cX4_takeWalls 82 = .ok (.putfield 72, 3) := by decide +kernel
theorem dX4_takeWalls_85 : decode cX4_takeWalls 85 = .ok (.iinc 3 1, 3) := by decide +kernel
theorem dX4_takeWalls_88 : decode cX4_takeWalls 88 = .ok (.goto (-84), 3) := by decide +kernel
theorem dX4_takeWalls_91 : decode cX4_takeWalls 91 = .ok (.iload_n 2, 1) := by decide +kernel
theorem dX4_takeWalls_92 : decode cX4_takeWalls 92 = .ok (.ireturn, 1) := by decide +kernel
theorem dX4_differsFrom_0 : decode cX4_differsFrom 0 = .ok (.iconst 0, 1) := by decide +kernel
theorem dX4_differsFrom_1 : decode cX4_differsFrom 1 = .ok (.istore_n 2, 1) := by decide +kernel
theorem dX4_differsFrom_2 : decode cX4_differsFrom 2 = .ok (.iconst 0, 1) := by decide +kernel
theorem dX4_differsFrom_3 : decode cX4_differsFrom 3 = .ok (.istore_n 3, 1) := by decide +kernel
theorem dX4_differsFrom_4 : decode cX4_differsFrom 4 = .ok (.iload_n 3, 1) := by decide +kernel
theorem dX4_differsFrom_5 : decode cX4_differsFrom 5 = .ok (.aload_n 1, 1) := by decide +kernel
theorem dX4_differsFrom_6 : decode cX4_differsFrom 6 = .ok (.getfield 90, 3) := by decide +kernel
theorem dX4_differsFrom_9 : decode cX4_differsFrom 9 = .ok (.if_icmp .ge 55, 3) := by decide +kernel
theorem dX4_differsFrom_12 : decode cX4_differsFrom 12 = .ok (.aload_n 1, 1) := by decide +kernel
theorem dX4_differsFrom_13 : decode cX4_differsFrom 13 = .ok (.iload_n 3, 1) := by decide +kernel
theorem dX4_differsFrom_14 : decode cX4_differsFrom 14 = .ok (.invokevirtual 93, 3) := by decide +kernel
theorem dX4_differsFrom_17 : decode cX4_differsFrom 17 = .ok (.ifCond .eq 41, 3) := by decide +kernel
theorem dX4_differsFrom_20 : decode cX4_differsFrom 20 = .ok (.iload_n 3, 1) := by decide +kernel
theorem dX4_differsFrom_21 : decode cX4_differsFrom 21 = .ok (.aload_n 0, 1) := by decide +kernel
theorem dX4_differsFrom_22 : decode cX4_differsFrom 22 = .ok (.getfield 36, 3) := by decide +kernel
theorem dX4_differsFrom_25 : decode cX4_differsFrom 25 = .ok (.if_icmp .ge 15, 3) := by decide +kernel
theorem dX4_differsFrom_28 : decode cX4_differsFrom 28 = .ok (.aload_n 0, 1) := by decide +kernel
theorem dX4_differsFrom_29 : decode cX4_differsFrom 29 = .ok (.getfield 11, 3) := by decide +kernel
theorem dX4_differsFrom_32 : decode cX4_differsFrom 32 = .ok (.iload_n 3, 1) := by decide +kernel
theorem dX4_differsFrom_33 : decode cX4_differsFrom 33 = .ok (.aaload, 1) := by decide +kernel
theorem dX4_differsFrom_34 : decode cX4_differsFrom 34 = .ok (.getfield 115, 3) := by decide +kernel
theorem dX4_differsFrom_37 : decode cX4_differsFrom 37 = .ok (.goto 4, 3) := by decide +kernel
theorem dX4_differsFrom_40 : decode cX4_differsFrom 40 = .ok (.iconst 0, 1) := by decide +kernel
theorem dX4_differsFrom_41 : decode cX4_differsFrom 41 = .ok (.istore 4, 2) := by decide +kernel
theorem dX4_differsFrom_43 : decode cX4_differsFrom 43 = .ok (.iload_n 2, 1) := by decide +kernel
theorem dX4_differsFrom_44 : decode cX4_differsFrom 44 = .ok (.iload 4, 2) := by decide +kernel
theorem dX4_differsFrom_46 : decode cX4_differsFrom 46 = .ok (.aload_n 1, 1) := by decide +kernel
theorem dX4_differsFrom_47 : decode cX4_differsFrom 47 = .ok (.getfield 103, 3) := by decide +kernel
theorem dX4_differsFrom_50 : decode cX4_differsFrom 50 = .ok (.iload_n 3, 1) := by decide +kernel
theorem dX4_differsFrom_51 : decode cX4_differsFrom 51 = .ok (.iaload, 1) := by decide +kernel
theorem dX4_differsFrom_52 : decode cX4_differsFrom 52 = .ok (.isub, 1) := by decide +kernel
theorem dX4_differsFrom_53 : decode cX4_differsFrom 53 = .ok (.invokestatic 118, 3) := by decide +kernel
theorem dX4_differsFrom_56 : decode cX4_differsFrom 56 = .ok (.iadd, 1) := by decide +kernel
theorem dX4_differsFrom_57 : decode cX4_differsFrom 57 = .ok (.istore_n 2, 1) := by decide +kernel
theorem dX4_differsFrom_58 : decode cX4_differsFrom 58 = .ok (.iinc 3 1, 3) := by decide +kernel
theorem dX4_differsFrom_61 : decode cX4_differsFrom 61 = .ok (.goto (-57), 3) := by decide +kernel
theorem dX4_differsFrom_64 : decode cX4_differsFrom 64 = .ok (.iload_n 2, 1) := by decide +kernel
theorem dX4_differsFrom_65 : decode cX4_differsFrom 65 = .ok (.ireturn, 1) := by decide +kernel
theorem dX4_pushOf_0 : decode cX4_pushOf 0 = .ok (.aload_n 0, 1) := by decide +kernel
theorem dX4_pushOf_1 : decode cX4_pushOf 1 = .ok (.getfield 23, 3) := by decide +kernel
theorem dX4_pushOf_4 : decode cX4_pushOf 4 = .ok (.iconst 0, 1) := by decide +kernel
theorem dX4_pushOf_5 : decode cX4_pushOf 5 = .ok (.aaload, 1) := by decide +kernel
theorem dX4_pushOf_6 : decode cX4_pushOf 6 = .ok (.astore_n 2, 1) := by decide +kernel
theorem dX4_pushOf_7 : decode cX4_pushOf 7 = .ok (.aload_n 1, 1) := by decide +kernel
theorem dX4_pushOf_8 : decode cX4_pushOf 8 = .ok (.getfield 69, 3) := by decide +kernel
theorem dX4_pushOf_11 : decode cX4_pushOf 11 = .ok (.invokestatic 118, 3) := by decide +kernel
theorem dX4_pushOf_14 : decode cX4_pushOf 14 = .ok (.istore_n 3, 1) := by decide +kernel
theorem dX4_pushOf_15 : decode cX4_pushOf 15 = .ok (.aload_n 1, 1) := by decide +kernel
theorem dX4_pushOf_16 : decode cX4_pushOf 16 = .ok (.aload_n 2, 1) := by decide +kernel
theorem dX4_pushOf_17 : decode cX4_pushOf 17 = .ok (.ifnonnull 15, 3) := by decide +kernel
theorem dX4_pushOf_20 : decode cX4_pushOf 20 = .ok (.aload_n 1, 1) := by decide +kernel
theorem dX4_pushOf_21 : decode cX4_pushOf 21 = .ok (.getfield 66, 3) := by decide +kernel
theorem dX4_pushOf_24 : decode cX4_pushOf 24 = .ok (.iload_n 3, 1) := by decide +kernel
theorem dX4_pushOf_25 : decode cX4_pushOf 25 = .ok (.imul, 1) := by decide +kernel
theorem dX4_pushOf_26 : decode cX4_pushOf 26 = .ok (.bipush 10, 2) := by decide +kernel
theorem dX4_pushOf_28 : decode cX4_pushOf 28 = .ok (.idiv, 1) := by decide +kernel
theorem dX4_pushOf_29 : decode cX4_pushOf 29 = .ok (.goto 16, 3) := by decide +kernel
theorem dX4_pushOf_32 : decode cX4_pushOf 32 = .ok (.aload_n 2, 1) := by decide +kernel
theorem dX4_pushOf_33 : decode cX4_pushOf 33 = .ok (.aload_n 1, 1) := by decide +kernel
theorem dX4_pushOf_34 : decode cX4_pushOf 34 = .ok (.getfield 66, 3) := by decide +kernel
theorem dX4_pushOf_37 : decode cX4_pushOf 37 = .ok (.iload_n 3, 1) := by decide +kernel
theorem dX4_pushOf_38 : decode cX4_pushOf 38 = .ok (.aload_n 1, 1) := by decide +kernel
theorem dX4_pushOf_39 : decode cX4_pushOf 39 = .ok (.getfield 115, 3) := by decide +kernel
theorem dX4_pushOf_42 : decode cX4_pushOf 42 = .ok (.invokevirtual 122, 3) := by decide +kernel
theorem dX4_pushOf_45 : decode cX4_pushOf 45 = .ok (.invokevirtual 126, 3) := by decide +kernel
theorem dX4_pushOf_48 : decode cX4_pushOf 48 = .ok (.ireturn, 1) := by decide +kernel
theorem dX4_workOutThrusts_0 : decode cX4_workOutThrusts 0 = .ok (.iconst (-1), 1) := by decide +kernel
theorem dX4_workOutThrusts_1 : decode cX4_workOutThrusts 1 = .ok (.istore_n 1, 1) := by decide +kernel
theorem dX4_workOutThrusts_2 : decode cX4_workOutThrusts 2 = .ok (.iconst 0, 1) := by decide +kernel
theorem dX4_workOutThrusts_3 : decode cX4_workOutThrusts 3 = .ok (.istore_n 2, 1) := by decide +kernel
theorem dX4_workOutThrusts_4 : decode cX4_workOutThrusts 4 = .ok (.iload_n 2, 1) := by decide +kernel
theorem dX4_workOutThrusts_5 : decode cX4_workOutThrusts 5 = .ok (.aload_n 0, 1) := by decide +kernel
theorem dX4_workOutThrusts_6 : decode cX4_workOutThrusts 6 = .ok (.getfield 36, 3) := by decide +kernel
theorem dX4_workOutThrusts_9 : decode cX4_workOutThrusts 9 = .ok (.if_icmp .ge 138, 3) := by decide +kernel
theorem dX4_workOutThrusts_12 : decode cX4_workOutThrusts 12 = .ok (.aload_n 0, 1) := by decide +kernel
theorem dX4_workOutThrusts_13 : decode cX4_workOutThrusts 13 = .ok (.getfield 26, 3) := by decide +kernel
theorem dX4_workOutThrusts_16 : decode cX4_workOutThrusts 16 = .ok (.iload_n 2, 1) := by decide +kernel
theorem dX4_workOutThrusts_17 : decode cX4_workOutThrusts 17 = .ok (.iconst 0, 1) := by decide +kernel
theorem dX4_workOutThrusts_18 : decode cX4_workOutThrusts 18 = .ok (.iastore, 1) := by decide +kernel
theorem dX4_workOutThrusts_19 : decode cX4_workOutThrusts 19 = .ok (.aload_n 0, 1) := by decide +kernel
theorem dX4_workOutThrusts_20 : decode cX4_workOutThrusts 20 = .ok (.getfield 30, 3) := by decide +kernel
theorem dX4_workOutThrusts_23 : decode cX4_workOutThrusts 23 = .ok (.iload_n 2, 1) := by decide +kernel
theorem dX4_workOutThrusts_24 : decode cX4_workOutThrusts 24 = .ok (.iload_n 1, 1) := by decide +kernel
theorem dX4_workOutThrusts_25 : decode cX4_workOutThrusts 25 = .ok (.iastore, 1) := by decide +kernel
theorem dX4_workOutThrusts_26 : decode cX4_workOutThrusts 26 = .ok (.aload_n 0, 1) := by decide +kernel
theorem dX4_workOutThrusts_27 : decode cX4_workOutThrusts 27 = .ok (.getfield 33, 3) := by decide +kernel
theorem dX4_workOutThrusts_30 : decode cX4_workOutThrusts 30 = .ok (.iload_n 2, 1) := by decide +kernel
theorem dX4_workOutThrusts_31 : decode cX4_workOutThrusts 31 = .ok (.iconst (-1), 1) := by decide +kernel
theorem dX4_workOutThrusts_32 : decode cX4_workOutThrusts 32 = .ok (.iastore, 1) := by decide +kernel
theorem dX4_workOutThrusts_33 : decode cX4_workOutThrusts 33 = .ok (.aload_n 0, 1) := by decide +kernel
theorem dX4_workOutThrusts_34 : decode cX4_workOutThrusts 34 = .ok (.getfield 11, 3) := by decide +kernel
theorem dX4_workOutThrusts_37 : decode cX4_workOutThrusts 37 = .ok (.iload_n 2, 1) := by decide +kernel
theorem dX4_workOutThrusts_38 : decode cX4_workOutThrusts 38 = .ok (.aaload, 1) := by decide +kernel
theorem dX4_workOutThrusts_39 : decode cX4_workOutThrusts 39 = .ok (.getfield 129, 3) := by decide +kernel
theorem dX4_workOutThrusts_42 : decode cX4_workOutThrusts 42 = .ok (.ifCond .ne 6, 3) := by decide +kernel
theorem dX4_workOutThrusts_45 : decode cX4_workOutThrusts 45 = .ok (.goto 96, 3) := by decide +kernel
theorem dX4_workOutThrusts_48 : decode cX4_workOutThrusts 48 = .ok (.aload_n 0, 1) := by decide +kernel
theorem dX4_workOutThrusts_49 : decode cX4_workOutThrusts 49 = .ok (.getfield 26, 3) := by decide +kernel
theorem dX4_workOutThrusts_52 : decode cX4_workOutThrusts 52 = .ok (.iload_n 2, 1) := by decide +kernel
theorem dX4_workOutThrusts_53 : decode cX4_workOutThrusts 53 = .ok (.aload_n 0, 1) := by decide +kernel
theorem dX4_workOutThrusts_54 : decode cX4_workOutThrusts 54 = .ok (.getfield 43, 3) := by decide +kernel
theorem dX4_workOutThrusts_57 : decode cX4_workOutThrusts 57 = .ok (.iastore, 1) := by decide +kernel
theorem dX4_workOutThrusts_58 : decode cX4_workOutThrusts 58 = .ok (.iload_n 1, 1) := by decide +kernel
theorem dX4_workOutThrusts_59 : decode cX4_workOutThrusts 59 = .ok (.ifCond .lt 80, 3) := by decide +kernel
theorem dX4_workOutThrusts_62 : decode cX4_workOutThrusts 62 = .ok (.aload_n 0, 1) := by decide +kernel
theorem dX4_workOutThrusts_63 : decode cX4_workOutThrusts 63 = .ok (.getfield 33, 3) := by decide +kernel
theorem dX4_workOutThrusts_66 : decode cX4_workOutThrusts 66 = .ok (.iload_n 1, 1) := by decide +kernel
theorem dX4_workOutThrusts_67 : decode cX4_workOutThrusts 67 = .ok (.iload_n 2, 1) := by decide +kernel
theorem dX4_workOutThrusts_68 : decode cX4_workOutThrusts 68 = .ok (.iastore, 1) := by decide +kernel
theorem dX4_workOutThrusts_69 : decode cX4_workOutThrusts 69 = .ok (.aload_n 0, 1) := by decide +kernel
theorem dX4_workOutThrusts_70 : decode cX4_workOutThrusts 70 = .ok (.getfield 26, 3) := by decide +kernel
theorem dX4_workOutThrusts_73 : decode cX4_workOutThrusts 73 = .ok (.iload_n 2, 1) := by decide +kernel
theorem dX4_workOutThrusts_74 : decode cX4_workOutThrusts 74 = .ok (.dup2, 1) := by decide +kernel
theorem dX4_workOutThrusts_75 : decode cX4_workOutThrusts 75 = .ok (.iaload, 1) := by decide +kernel
theorem dX4_workOutThrusts_76 : decode cX4_workOutThrusts 76 = .ok (.aload_n 0, 1) := by decide +kernel
theorem dX4_workOutThrusts_77 : decode cX4_workOutThrusts 77 = .ok (.getfield 11, 3) := by decide +kernel
theorem dX4_workOutThrusts_80 : decode cX4_workOutThrusts 80 = .ok (.iload_n 1, 1) := by decide +kernel
theorem dX4_workOutThrusts_81 : decode cX4_workOutThrusts 81 = .ok (.aaload, 1) := by decide +kernel
theorem dX4_workOutThrusts_82 : decode cX4_workOutThrusts 82 = .ok (.getfield 69, 3) := by decide +kernel
theorem dX4_workOutThrusts_85 : decode cX4_workOutThrusts 85 = .ok (.ifCond .le 16, 3) := by decide +kernel
theorem dX4_workOutThrusts_88 : decode cX4_workOutThrusts 88 = .ok (.aload_n 0, 1) := by decide +kernel
theorem dX4_workOutThrusts_89 : decode cX4_workOutThrusts 89 = .ok (.aload_n 0, 1) := by decide +kernel
theorem dX4_workOutThrusts_90 : decode cX4_workOutThrusts 90 = .ok (.getfield 11, 3) := by decide +kernel
theorem dX4_workOutThrusts_93 : decode cX4_workOutThrusts 93 = .ok (.iload_n 1, 1) := by decide +kernel
theorem dX4_workOutThrusts_94 : decode cX4_workOutThrusts 94 = .ok (.aaload, 1) := by decide +kernel
theorem dX4_workOutThrusts_95 : decode cX4_workOutThrusts 95 = .ok (.invokevirtual 133, 3) := by decide +kernel
theorem dX4_workOutThrusts_98 : decode cX4_workOutThrusts 98 = .ok (.goto 4, 3) := by decide +kernel
theorem dX4_workOutThrusts_101 : decode cX4_workOutThrusts 101 = .ok (.iconst 0, 1) := by decide +kernel
theorem dX4_workOutThrusts_102 : decode cX4_workOutThrusts 102 = .ok (.iadd, 1) := by decide +kernel
theorem dX4_workOutThrusts_103 : decode cX4_workOutThrusts 103 = .ok (.iastore, 1) := by decide +kernel
theorem dX4_workOutThrusts_104 : decode cX4_workOutThrusts 104 = .ok (.aload_n 0, 1) := by decide +kernel
theorem dX4_workOutThrusts_105 : decode cX4_workOutThrusts 105 = .ok (.getfield 26, 3) := by decide +kernel
theorem dX4_workOutThrusts_108 : decode cX4_workOutThrusts 108 = .ok (.iload_n 1, 1) := by decide +kernel
theorem dX4_workOutThrusts_109 : decode cX4_workOutThrusts 109 = .ok (.dup2, 1) := by decide +kernel
theorem dX4_workOutThrusts_110 : decode cX4_workOutThrusts 110 = .ok (.iaload, 1) := by decide +kernel
theorem dX4_workOutThrusts_111 : decode cX4_workOutThrusts 111 = .ok (.aload_n 0, 1) := by decide +kernel
theorem dX4_workOutThrusts_112 : decode cX4_workOutThrusts 112 = .ok (.getfield 11, 3) := by decide +kernel
theorem dX4_workOutThrusts_115 : decode cX4_workOutThrusts 115 = .ok (.iload_n 2, 1) := by decide +kernel
theorem dX4_workOutThrusts_116 : decode cX4_workOutThrusts 116 = .ok (.aaload, 1) := by decide +kernel
theorem dX4_workOutThrusts_117 : decode cX4_workOutThrusts 117 = .ok (.getfield 69, 3) := by decide +kernel
theorem dX4_workOutThrusts_120 : decode cX4_workOutThrusts 120 = .ok (.ifCond .ge 16, 3) := by decide +kernel
theorem dX4_workOutThrusts_123 : decode cX4_workOutThrusts 123 = .ok (.aload_n 0, 1) := by decide +kernel
theorem dX4_workOutThrusts_124 : decode cX4_workOutThrusts 124 = .ok (.aload_n 0, 1) := by decide +kernel
theorem dX4_workOutThrusts_125 : decode cX4_workOutThrusts 125 = .ok (.getfield 11, 3) := by decide +kernel
theorem dX4_workOutThrusts_128 : decode cX4_workOutThrusts 128 = .ok (.iload_n 2, 1) := by decide +kernel
theorem dX4_workOutThrusts_129 : decode cX4_workOutThrusts 129 = .ok (.aaload, 1) := by decide +kernel
theorem dX4_workOutThrusts_130 : decode cX4_workOutThrusts 130 = .ok (.invokevirtual 133, 3) := by decide +kernel
theorem dX4_workOutThrusts_133 : decode cX4_workOutThrusts 133 = .ok (.goto 4, 3) := by decide +kernel
theorem dX4_workOutThrusts_136 : decode cX4_workOutThrusts 136 = .ok (.iconst 0, 1) := by decide +kernel
theorem dX4_workOutThrusts_137 : decode cX4_workOutThrusts 137 = .ok (.isub, 1) := by decide +kernel
theorem dX4_workOutThrusts_138 : decode cX4_workOutThrusts 138 = .ok (.iastore, 1) := by decide +kernel
theorem dX4_workOutThrusts_139 : decode cX4_workOutThrusts 139 = .ok (.iload_n 2, 1) := by decide +kernel
theorem dX4_workOutThrusts_140 : decode cX4_workOutThrusts 140 = .ok (.istore_n 1, 1) := by decide +kernel
theorem dX4_workOutThrusts_141 : decode cX4_workOutThrusts 141 = .ok (.iinc 2 1, 3) := by decide +kernel
theorem dX4_workOutThrusts_144 : decode cX4_workOutThrusts 144 = .ok (.goto (-140), 3) := by decide +kernel
theorem dX4_workOutThrusts_147 : decode cX4_workOutThrusts 147 = .ok (.return_, 1) := by decide +kernel
theorem dX4_tooMuch_0 : decode cX4_tooMuch 0 = .ok (.aload_n 0, 1) := by decide +kernel
theorem dX4_tooMuch_1 : decode cX4_tooMuch 1 = .ok (.getfield 11, 3) := by decide +kernel
theorem dX4_tooMuch_4 : decode cX4_tooMuch 4 = .ok (.iload_n 1, 1) := by decide +kernel
theorem dX4_tooMuch_5 : decode cX4_tooMuch 5 = .ok (.aaload, 1) := by decide +kernel
theorem dX4_tooMuch_6 : decode cX4_tooMuch 6 = .ok (.getfield 129, 3) := by decide +kernel
theorem dX4_tooMuch_9 : decode cX4_tooMuch 9 = .ok (.ifCond .eq 25, 3) := by decide +kernel
theorem dX4_tooMuch_12 : decode cX4_tooMuch 12 = .ok (.aload_n 0, 1) := by decide +kernel
theorem dX4_tooMuch_13 : decode cX4_tooMuch 13 = .ok (.getfield 26, 3) := by decide +kernel
theorem dX4_tooMuch_16 : decode cX4_tooMuch 16 = .ok (.iload_n 1, 1) := by decide +kernel
theorem dX4_tooMuch_17 : decode cX4_tooMuch 17 = .ok (.iaload, 1) := by decide +kernel
theorem dX4_tooMuch_18 : decode cX4_tooMuch 18 = .ok (.invokestatic 118, 3) := by decide +kernel
theorem dX4_tooMuch_21 : decode cX4_tooMuch 21 = .ok (.aload_n 0, 1) := by decide +kernel
theorem dX4_tooMuch_22 : decode cX4_tooMuch 22 = .ok (.getfield 11, 3) := by decide +kernel
theorem dX4_tooMuch_25 : decode cX4_tooMuch 25 = .ok (.iload_n 1, 1) := by decide +kernel
theorem dX4_tooMuch_26 : decode cX4_tooMuch 26 = .ok (.aaload, 1) := by decide +kernel
theorem dX4_tooMuch_27 : decode cX4_tooMuch 27 = .ok (.invokevirtual 137, 3) := by decide +kernel
theorem dX4_tooMuch_30 : decode cX4_tooMuch 30 = .ok (.isub, 1) := by decide +kernel
theorem dX4_tooMuch_31 : decode cX4_tooMuch 31 = .ok (.goto 4, 3) := by decide +kernel
theorem dX4_tooMuch_34 : decode cX4_tooMuch 34 = .ok (.iconst 0, 1) := by decide +kernel
theorem dX4_tooMuch_35 : decode cX4_tooMuch 35 = .ok (.ireturn, 1) := by decide +kernel
theorem dX4_notHolding_0 : decode cX4_notHolding 0 = .ok (.aload_n 0, 1) := by decide +kernel
theorem dX4_notHolding_1 : decode cX4_notHolding 1 = .ok (.invokevirtual 140, 3) := by decide +kernel
theorem dX4_notHolding_4 : decode cX4_notHolding 4 = .ok (.iconst 0, 1) := by decide +kernel
theorem dX4_notHolding_5 : decode cX4_notHolding 5 = .ok (.istore_n 1, 1) := by decide +kernel
theorem dX4_notHolding_6 : decode cX4_notHolding 6 = .ok (.iconst 0, 1) := by decide +kernel
theorem dX4_notHolding_7 : decode cX4_notHolding 7 = .ok (.istore_n 2, 1) := by decide +kernel
theorem dX4_notHolding_8 : decode cX4_notHolding 8 = .ok (.iload_n 2, 1) := by decide +kernel
theorem dX4_notHolding_9 : decode cX4_notHolding 9 = .ok (.aload_n 0, 1) := by decide +kernel
theorem dX4_notHolding_10 : decode cX4_notHolding 10 = .ok (.getfield 36, 3) := by decide +kernel
theorem dX4_notHolding_13 : decode cX4_notHolding 13 = .ok (.if_icmp .ge 23, 3) := by decide +kernel
theorem dX4_notHolding_16 : decode cX4_notHolding 16 = .ok (.aload_n 0, 1) := by decide +kernel
theorem dX4_notHolding_17 : decode cX4_notHolding 17 = .ok (.iload_n 2, 1) := by decide +kernel
theorem dX4_notHolding_18 : decode cX4_notHolding 18 = .ok (.invokevirtual 143, 3) := by decide +kernel
theorem dX4_notHolding_21 : decode cX4_notHolding 21 = .ok (.ifCond .le 9, 3) := by decide +kernel
theorem dX4_notHolding_24 : decode cX4_notHolding 24 = .ok (.iload_n 1, 1) := by decide +kernel
theorem dX4_notHolding_25 : decode cX4_notHolding 25 = .ok (.iconst 1, 1) := by decide +kernel
theorem dX4_notHolding_26 : decode cX4_notHolding 26 = .ok (.iload_n 2, 1) := by decide +kernel
theorem dX4_notHolding_27 : decode cX4_notHolding 27 = .ok (.ishl, 1) := by decide +kernel
theorem dX4_notHolding_28 : decode cX4_notHolding 28 = .ok (.ior, 1) := by decide +kernel
theorem dX4_notHolding_29 : decode cX4_notHolding 29 = .ok (.istore_n 1, 1) := by decide +kernel
theorem dX4_notHolding_30 : decode cX4_notHolding 30 = .ok (.iinc 2 1, 3) := by decide +kernel
theorem dX4_notHolding_33 : decode cX4_notHolding 33 = .ok (.goto (-25), 3) := by decide +kernel
theorem dX4_notHolding_36 : decode cX4_notHolding 36 = .ok (.iload_n 1, 1) := by decide +kernel
theorem dX4_notHolding_37 : decode cX4_notHolding 37 = .ok (.ireturn, 1) := by decide +kernel
theorem dX4_goOneDay_0 : decode cX4_goOneDay 0 = .ok (.aload_n 0, 1) := by decide +kernel
theorem dX4_goOneDay_1 : decode cX4_goOneDay 1 = .ok (.invokevirtual 140, 3) := by decide +kernel
theorem dX4_goOneDay_4 : decode cX4_goOneDay 4 = .ok (.aload_n 0, 1) := by decide +kernel
theorem dX4_goOneDay_5 : decode cX4_goOneDay 5 = .ok (.invokevirtual 146, 3) := by decide +kernel
theorem dX4_goOneDay_8 : decode cX4_goOneDay 8 = .ok (.istore_n 1, 1) := by decide +kernel
theorem dX4_goOneDay_9 : decode cX4_goOneDay 9 = .ok (.aload_n 0, 1) := by decide +kernel
theorem dX4_goOneDay_10 : decode cX4_goOneDay 10 = .ok (.invokevirtual 150, 3) := by decide +kernel
theorem dX4_goOneDay_13 : decode cX4_goOneDay 13 = .ok (.istore_n 2, 1) := by decide +kernel
theorem dX4_goOneDay_14 : decode cX4_goOneDay 14 = .ok (.iload_n 2, 1) := by decide +kernel
theorem dX4_goOneDay_15 : decode cX4_goOneDay 15 = .ok (.ifCond .eq 7, 3) := by decide +kernel
theorem dX4_goOneDay_18 : decode cX4_goOneDay 18 = .ok (.aload_n 0, 1) := by decide +kernel
theorem dX4_goOneDay_19 : decode cX4_goOneDay 19 = .ok (.invokevirtual 153, 3) := by decide +kernel
theorem dX4_goOneDay_22 : decode cX4_goOneDay 22 = .ok (.aload_n 0, 1) := by decide +kernel
theorem dX4_goOneDay_23 : decode cX4_goOneDay 23 = .ok (.dup, 1) := by decide +kernel
theorem dX4_goOneDay_24 : decode cX4_goOneDay 24 = .ok (.getfield 46, 3) := by decide +kernel
theorem dX4_goOneDay_27 : decode cX4_goOneDay 27 = .ok (.aload_n 0, 1) := by decide +kernel
theorem dX4_goOneDay_28 : decode cX4_goOneDay 28 = .ok (.invokevirtual 156, 3) := by decide +kernel
theorem dX4_goOneDay_31 : decode cX4_goOneDay 31 = .ok (.iadd, 1) := by decide +kernel
theorem dX4_goOneDay_32 : decode cX4_goOneDay 32 = .ok (.putfield 46, 3) := by decide +kernel
theorem dX4_goOneDay_35 : decode cX4_goOneDay 35 = .ok (.aload_n 0, 1) := by decide +kernel
theorem dX4_goOneDay_36 : decode cX4_goOneDay 36 = .ok (.dup, 1) := by decide +kernel
theorem dX4_goOneDay_37 : decode cX4_goOneDay 37 = .ok (.getfield 49, 3) := by decide +kernel
theorem dX4_goOneDay_40 : decode cX4_goOneDay 40 = .ok (.iconst 1, 1) := by decide +kernel
theorem dX4_goOneDay_41 : decode cX4_goOneDay 41 = .ok (.iadd, 1) := by decide +kernel
theorem dX4_goOneDay_42 : decode cX4_goOneDay 42 = .ok (.putfield 49, 3) := by decide +kernel
theorem dX4_goOneDay_45 : decode cX4_goOneDay 45 = .ok (.iload_n 1, 1) := by decide +kernel
theorem dX4_goOneDay_46 : decode cX4_goOneDay 46 = .ok (.ifCond .ne 7, 3) := by decide +kernel
theorem dX4_goOneDay_49 : decode cX4_goOneDay 49 = .ok (.iload_n 2, 1) := by decide +kernel
theorem dX4_goOneDay_50 : decode cX4_goOneDay 50 = .ok (.ifCond .eq 7, 3) := by decide +kernel
theorem dX4_goOneDay_53 : decode cX4_goOneDay 53 = .ok (.iconst 1, 1) := by decide +kernel
theorem dX4_goOneDay_54 : decode cX4_goOneDay 54 = .ok (.goto 4, 3) := by decide +kernel
theorem dX4_goOneDay_57 : decode cX4_goOneDay 57 = .ok (.iconst 0, 1) := by decide +kernel
theorem dX4_goOneDay_58 : decode cX4_goOneDay 58 = .ok (.ireturn, 1) := by decide +kernel
theorem dX4_crackAndMove_0 : decode cX4_crackAndMove 0 = .ok (.iconst 0, 1) := by decide +kernel
theorem dX4_crackAndMove_1 : decode cX4_crackAndMove 1 = .ok (.istore_n 1, 1) := by decide +kernel
theorem dX4_crackAndMove_2 : decode cX4_crackAndMove 2 = .ok (.iconst 0, 1) := by decide +kernel
theorem dX4_crackAndMove_3 : decode cX4_crackAndMove 3 = .ok (.istore_n 2, 1) := by decide +kernel
theorem dX4_crackAndMove_4 : decode cX4_crackAndMove 4 = .ok (.iload_n 2, 1) := by decide +kernel
theorem dX4_crackAndMove_5 : decode cX4_crackAndMove 5 = .ok (.aload_n 0, 1) := by decide +kernel
theorem dX4_crackAndMove_6 : decode cX4_crackAndMove 6 = .ok (.getfield 36, 3) := by decide +kernel
theorem dX4_crackAndMove_9 : decode cX4_crackAndMove 9 = .ok (.if_icmp .ge 94, 3) := by decide +kernel
theorem dX4_crackAndMove_12 : decode cX4_crackAndMove 12 = .ok (.aload_n 0, 1) := by decide +kernel
theorem dX4_crackAndMove_13 : decode cX4_crackAndMove 13 = .ok (.iload_n 2, 1) := by decide +kernel
theorem dX4_crackAndMove_14 : decode cX4_crackAndMove 14 = .ok (.invokevirtual 143, 3) := by decide +kernel
theorem dX4_crackAndMove_17 : decode cX4_crackAndMove 17 = .ok (.istore_n 3, 1) := by decide +kernel
theorem dX4_crackAndMove_18 : decode cX4_crackAndMove 18 = .ok (.iload_n 3, 1) := by decide +kernel
theorem dX4_crackAndMove_19 : decode cX4_crackAndMove 19 = .ok (.ifCond .le 78, 3) := by decide +kernel
theorem dX4_crackAndMove_22 : decode cX4_crackAndMove 22 = .ok (.aload_n 0, 1) := by decide +kernel
theorem dX4_crackAndMove_23 : decode cX4_crackAndMove 23 = .ok (.getfield 11, 3) := by decide +kernel
theorem dX4_crackAndMove_26 : decode cX4_crackAndMove 26 = .ok (.iload_n 2, 1) := by decide +kernel
theorem dX4_crackAndMove_27 : decode cX4_crackAndMove 27 = .ok (.aaload, 1) := by decide +kernel
theorem dX4_crackAndMove_28 : decode cX4_crackAndMove 28 = .ok (.astore 4, 2) := by decide +kernel
theorem dX4_crackAndMove_30 : decode cX4_crackAndMove 30 = .ok (.aload 4, 2) := by decide +kernel
theorem dX4_crackAndMove_32 : decode cX4_crackAndMove 32 = .ok (.getstatic 100, 3) := by decide +kernel
theorem dX4_crackAndMove_35 : decode cX4_crackAndMove 35 = .ok (.iconst 4, 1) := by decide +kernel
theorem dX4_crackAndMove_36 : decode cX4_crackAndMove 36 = .ok (.iaload, 1) := by decide +kernel
theorem dX4_crackAndMove_37 : decode cX4_crackAndMove 37 = .ok (.aload 4, 2) := by decide +kernel
theorem dX4_crackAndMove_39 : decode cX4_crackAndMove 39 = .ok (.getfield 115, 3) := by decide +kernel
theorem dX4_crackAndMove_42 : decode cX4_crackAndMove 42 = .ok (.iload_n 3, 1) := by decide +kernel
theorem dX4_crackAndMove_43 : decode cX4_crackAndMove 43 = .ok (.iadd, 1) := by decide +kernel
theorem dX4_crackAndMove_44 : decode cX4_crackAndMove 44 = .ok (.invokestatic 106, 3) := by decide +kernel
theorem dX4_crackAndMove_47 : decode cX4_crackAndMove 47 = .ok (.putfield 115, 3) := by decide +kernel
theorem dX4_crackAndMove_50 : decode cX4_crackAndMove 50 = .ok (.aload 4, 2) := by decide +kernel
theorem dX4_crackAndMove_52 : decode cX4_crackAndMove 52 = .ok (.getfield 69, 3) := by decide +kernel
theorem dX4_crackAndMove_55 : decode cX4_crackAndMove 55 = .ok (.aload_n 0, 1) := by decide +kernel
theorem dX4_crackAndMove_56 : decode cX4_crackAndMove 56 = .ok (.getfield 26, 3) := by decide +kernel
theorem dX4_crackAndMove_59 : decode cX4_crackAndMove 59 = .ok (.iload_n 2, 1) := by decide +kernel
theorem dX4_crackAndMove_60 : decode cX4_crackAndMove 60 = .ok (.iaload, 1) := by decide +kernel
theorem dX4_crackAndMove_61 : decode cX4_crackAndMove 61 = .ok (.ifCond .le 7, 3) := by decide +kernel
theorem dX4_crackAndMove_64 : decode cX4_crackAndMove 64 = .ok (.iconst 1, 1) := by decide +kernel
theorem dX4_crackAndMove_65 : decode cX4_crackAndMove 65 = .ok (.goto 4, 3) := by decide +kernel
theorem dX4_crackAndMove_68 : decode cX4_crackAndMove 68 = .ok (.iconst (-1), 1) := by decide +kernel
theorem dX4_crackAndMove_69 : decode cX4_crackAndMove 69 = .ok (.iadd, 1) := by decide +kernel
theorem dX4_crackAndMove_70 : decode cX4_crackAndMove 70 = .ok (.istore 5, 2) := by decide +kernel
theorem dX4_crackAndMove_72 : decode cX4_crackAndMove 72 = .ok (.aload 4, 2) := by decide +kernel
theorem dX4_crackAndMove_74 : decode cX4_crackAndMove 74 = .ok (.getstatic 97, 3) := by decide +kernel
theorem dX4_crackAndMove_77 : decode cX4_crackAndMove 77 = .ok (.iconst 2, 1) := by decide +kernel
theorem dX4_crackAndMove_78 : decode cX4_crackAndMove 78 = .ok (.iaload, 1) := by decide +kernel
theorem dX4_crackAndMove_79 : decode cX4_crackAndMove 79 = .ok (.getstatic 100, 3) := by decide +kernel
theorem dX4_crackAndMove_82 : decode cX4_crackAndMove 82 = .ok (.iconst 2, 1) := by decide +kernel
theorem dX4_crackAndMove_83 : decode cX4_crackAndMove 83 = .ok (.iaload, 1) := by decide +kernel
theorem dX4_crackAndMove_84 : decode cX4_crackAndMove 84 = .ok (.iload 5, 2) := by decide +kernel
theorem dX4_crackAndMove_86 : decode cX4_crackAndMove 86 = .ok (.invokestatic 106, 3) := by decide +kernel
theorem dX4_crackAndMove_89 : decode cX4_crackAndMove 89 = .ok (.invokestatic 112, 3) := by decide +kernel
theorem dX4_crackAndMove_92 : decode cX4_crackAndMove 92 = .ok (.putfield 69, 3) := by decide +kernel
theorem dX4_crackAndMove_95 : decode cX4_crackAndMove 95 = .ok (.iconst 1, 1) := by decide +kernel
theorem dX4_crackAndMove_96 : decode cX4_crackAndMove 96 = .ok (.istore_n 1, 1) := by decide +kernel
theorem dX4_crackAndMove_97 : decode cX4_crackAndMove 97 = .ok (.iinc 2 1, 3) := by decide +kernel
theorem dX4_crackAndMove_100 : decode cX4_crackAndMove 100 = .ok (.goto (-96), 3) := by decide +kernel
theorem dX4_crackAndMove_103 : decode cX4_crackAndMove 103 = .ok (.iload_n 1, 1) := by decide +kernel
theorem dX4_crackAndMove_104 : decode cX4_crackAndMove 104 = .ok (.ireturn, 1) := by decide +kernel
theorem dX4_fallByCracks_0 : decode cX4_fallByCracks 0 = .ok (.iconst 0, 1) := by decide +kernel
theorem dX4_fallByCracks_1 : decode cX4_fallByCracks 1 = .ok (.istore_n 1, 1) := by decide +kernel
theorem dX4_fallByCracks_2 : decode cX4_fallByCracks 2 = .ok (.iconst 0, 1) := by decide +kernel
theorem dX4_fallByCracks_3 : decode cX4_fallByCracks 3 = .ok (.istore_n 2, 1) := by decide +kernel
theorem dX4_fallByCracks_4 : decode cX4_fallByCracks 4 = .ok (.iload_n 2, 1) := by decide +kernel
theorem dX4_fallByCracks_5 : decode cX4_fallByCracks 5 = .ok (.aload_n 0, 1) := by decide +kernel
theorem dX4_fallByCracks_6 : decode cX4_fallByCracks 6 = .ok (.getfield 36, 3) := by decide +kernel
theorem dX4_fallByCracks_9 : decode cX4_fallByCracks 9 = .ok (.if_icmp .ge 46, 3) := by decide +kernel
theorem dX4_fallByCracks_12 : decode cX4_fallByCracks 12 = .ok (.aload_n 0, 1) := by decide +kernel
theorem dX4_fallByCracks_13 : decode cX4_fallByCracks 13 = .ok (.getfield 11, 3) := by decide +kernel
theorem dX4_fallByCracks_16 : decode cX4_fallByCracks 16 = .ok (.iload_n 2, 1) := by decide +kernel
theorem dX4_fallByCracks_17 : decode cX4_fallByCracks 17 = .ok (.aaload, 1) := by decide +kernel
theorem dX4_fallByCracks_18 : decode cX4_fallByCracks 18 = .ok (.getfield 129, 3) := by decide +kernel
theorem dX4_fallByCracks_21 : decode cX4_fallByCracks 21 = .ok (.ifCond .eq 28, 3) := by decide +kernel
theorem dX4_fallByCracks_24 : decode cX4_fallByCracks 24 = .ok (.aload_n 0, 1) := by decide +kernel
theorem dX4_fallByCracks_25 : decode cX4_fallByCracks 25 = .ok (.getfield 11, 3) := by decide +kernel
theorem dX4_fallByCracks_28 : decode cX4_fallByCracks 28 = .ok (.iload_n 2, 1) := by decide +kernel
theorem dX4_fallByCracks_29 : decode cX4_fallByCracks 29 = .ok (.aaload, 1) := by decide +kernel
theorem dX4_fallByCracks_30 : decode cX4_fallByCracks 30 = .ok (.getfield 115, 3) := by decide +kernel
theorem dX4_fallByCracks_33 : decode cX4_fallByCracks 33 = .ok (.bipush 100, 2) := by decide +kernel
theorem dX4_fallByCracks_35 : decode cX4_fallByCracks 35 = .ok (.if_icmp .lt 14, 3) := by decide +kernel
theorem dX4_fallByCracks_38 : decode cX4_fallByCracks 38 = .ok (.aload_n 0, 1) := by decide +kernel
theorem dX4_fallByCracks_39 : decode cX4_fallByCracks 39 = .ok (.getfield 11, 3) := by decide +kernel
theorem dX4_fallByCracks_42 : decode cX4_fallByCracks 42 = .ok (.iload_n 2, 1) := by decide +kernel
theorem dX4_fallByCracks_43 : decode cX4_fallByCracks 43 = .ok (.aaload, 1) := by decide +kernel
theorem dX4_fallByCracks_44 : decode cX4_fallByCracks 44 = .ok (.invokevirtual 159, 3) := by decide +kernel
theorem dX4_fallByCracks_47 : decode cX4_fallByCracks 47 = .ok (.iconst 1, 1) := by decide +kernel
theorem dX4_fallByCracks_48 : decode cX4_fallByCracks 48 = .ok (.istore_n 1, 1) := by decide +kernel
theorem dX4_fallByCracks_49 : decode cX4_fallByCracks 49 = .ok (.iinc 2 1, 3) := by decide +kernel
theorem dX4_fallByCracks_52 : decode cX4_fallByCracks 52 = .ok (.goto (-48), 3) := by decide +kernel
theorem dX4_fallByCracks_55 : decode cX4_fallByCracks 55 = .ok (.iload_n 1, 1) := by decide +kernel
theorem dX4_fallByCracks_56 : decode cX4_fallByCracks 56 = .ok (.ireturn, 1) := by decide +kernel
theorem dX4_fallByNeighbours_0 : decode cX4_fallByNeighbours 0 = .ok (.iconst 1, 1) := by decide +kernel
theorem dX4_fallByNeighbours_1 : decode cX4_fallByNeighbours 1 = .ok (.istore_n 1, 1) := by decide +kernel
theorem dX4_fallByNeighbours_2 : decode cX4_fallByNeighbours 2 = .ok (.iconst 0, 1) := by decide +kernel
theorem dX4_fallByNeighbours_3 : decode cX4_fallByNeighbours 3 = .ok (.istore_n 2, 1) := by decide +kernel
theorem dX4_fallByNeighbours_4 : decode cX4_fallByNeighbours 4 = .ok (.iload_n 2, 1) := by decide +kernel
theorem dX4_fallByNeighbours_5 : decode cX4_fallByNeighbours 5 = .ok (.bipush 9, 2) := by decide +kernel
theorem dX4_fallByNeighbours_7 : decode cX4_fallByNeighbours 7 = .ok (.if_icmp .ge 62, 3) := by decide +kernel
theorem dX4_fallByNeighbours_10 : decode cX4_fallByNeighbours 10 = .ok (.iload_n 1, 1) := by decide +kernel
theorem dX4_fallByNeighbours_11 : decode cX4_fallByNeighbours 11 = .ok (.ifCond .eq 58, 3) := by decide +kernel
theorem dX4_fallByNeighbours_14 : decode cX4_fallByNeighbours 14 = .ok (.iconst 0, 1) := by decide +kernel
theorem dX4_fallByNeighbours_15 : decode cX4_fallByNeighbours 15 = .ok (.istore_n 1, 1) := by decide +kernel
theorem dX4_fallByNeighbours_16 : decode cX4_fallByNeighbours 16 = .ok (.iconst 0, 1) := by decide +kernel
theorem dX4_fallByNeighbours_17 : decode cX4_fallByNeighbours 17 = .ok (.istore_n 3, 1) := by decide +kernel
theorem dX4_fallByNeighbours_18 : decode cX4_fallByNeighbours 18 = .ok (.iload_n 3, 1) := by decide +kernel
theorem dX4_fallByNeighbours_19 : decode cX4_fallByNeighbours 19 = .ok (.aload_n 0, 1) := by decide +kernel
theorem dX4_fallByNeighbours_20 : decode cX4_fallByNeighbours 20 = .ok (.getfield 36, 3) := by decide +kernel
theorem dX4_fallByNeighbours_23 : decode cX4_fallByNeighbours 23 = .ok (.if_icmp .ge 40, 3) := by decide +kernel
theorem dX4_fallByNeighbours_26 : decode cX4_fallByNeighbours 26 = .ok (.aload_n 0, 1) := by decide +kernel
theorem dX4_fallByNeighbours_27 : decode cX4_fallByNeighbours 27 = .ok (.getfield 11, 3) := by decide +kernel
theorem dX4_fallByNeighbours_30 : decode cX4_fallByNeighbours 30 = .ok (.iload_n 3, 1) := by decide +kernel
theorem dX4_fallByNeighbours_31 : decode cX4_fallByNeighbours 31 = .ok (.aaload, 1) := by decide +kernel
theorem dX4_fallByNeighbours_32 : decode cX4_fallByNeighbours 32 = .ok (.getfield 129, 3) := by decide +kernel
theorem dX4_fallByNeighbours_35 : decode cX4_fallByNeighbours 35 = .ok (.ifCond .eq 22, 3) := by decide +kernel
theorem dX4_fallByNeighbours_38 : decode cX4_fallByNeighbours 38 = .ok (.aload_n 0, 1) := by decide +kernel
theorem dX4_fallByNeighbours_39 : decode cX4_fallByNeighbours 39 = .ok (.iload_n 3, 1) := by decide +kernel
theorem dX4_fallByNeighbours_40 : decode cX4_fallByNeighbours 40 = .ok (.invokevirtual 162, 3) := by decide +kernel
theorem dX4_fallByNeighbours_43 : decode cX4_fallByNeighbours 43 = .ok (.ifCond .eq 14, 3) := by decide +kernel
theorem dX4_fallByNeighbours_46 : decode cX4_fallByNeighbours 46 = .ok (.aload_n 0, 1) := by decide +kernel
theorem dX4_fallByNeighbours_47 : decode cX4_fallByNeighbours 47 = .ok (.getfield 11, 3) := by decide +kernel
theorem dX4_fallByNeighbours_50 : decode cX4_fallByNeighbours 50 = .ok (.iload_n 3, 1) := by decide +kernel
theorem dX4_fallByNeighbours_51 : decode cX4_fallByNeighbours 51 = .ok (.aaload, 1) := by decide +kernel
theorem dX4_fallByNeighbours_52 : decode cX4_fallByNeighbours 52 = .ok (.invokevirtual 159, 3) := by decide +kernel
theorem dX4_fallByNeighbours_55 : decode cX4_fallByNeighbours 55 = .ok (.iconst 1, 1) := by decide +kernel
theorem dX4_fallByNeighbours_56 : decode cX4_fallByNeighbours 56 = .ok (.istore_n 1, 1) := by decide +kernel
theorem dX4_fallByNeighbours_57 : decode cX4_fallByNeighbours 57 = .ok (.iinc 3 1, 3) := by decide +kernel
theorem dX4_fallByNeighbours_60 : decode cX4_fallByNeighbours 60 = .ok (.goto (-42), 3) := by decide +kernel
theorem dX4_fallByNeighbours_63 : decode cX4_fallByNeighbours 63 = .ok (.iinc 2 1, 3) := by decide +kernel
theorem dX4_fallByNeighbours_66 : decode cX4_fallByNeighbours 66 = .ok (.goto (-62), 3) := by decide +kernel
theorem dX4_fallByNeighbours_69 : decode cX4_fallByNeighbours 69 = .ok (.return_, 1) := by decide +kernel
theorem dX4_hasLostItsRest_0 : decode cX4_hasLostItsRest 0 = .ok (.aload_n 0, 1) := by decide +kernel
theorem dX4_hasLostItsRest_1 : decode cX4_hasLostItsRest 1 = .ok (.getfield 11, 3) := by decide +kernel
theorem dX4_hasLostItsRest_4 : decode cX4_hasLostItsRest 4 = .ok (.iload_n 1, 1) := by decide +kernel
theorem dX4_hasLostItsRest_5 : decode cX4_hasLostItsRest 5 = .ok (.aaload, 1) := by decide +kernel
theorem dX4_hasLostItsRest_6 : decode cX4_hasLostItsRest 6 = .ok (.getfield 69, 3) := by decide +kernel
theorem dX4_hasLostItsRest_9 : decode cX4_hasLostItsRest 9 = .ok (.bipush 20, 2) := by decide +kernel
theorem dX4_hasLostItsRest_11 : decode cX4_hasLostItsRest 11 = .ok (.if_icmp .lt 12, 3) := by decide +kernel
theorem dX4_hasLostItsRest_14 : decode cX4_hasLostItsRest 14 = .ok (.aload_n 0, 1) := by decide +kernel
theorem dX4_hasLostItsRest_15 : decode cX4_hasLostItsRest 15 = .ok (.getfield 33, 3) := by decide +kernel
theorem dX4_hasLostItsRest_18 : decode cX4_hasLostItsRest 18 = .ok (.iload_n 1, 1) := by decide +kernel
theorem dX4_hasLostItsRest_19 : decode cX4_hasLostItsRest 19 = .ok (.iaload, 1) := by decide +kernel
theorem dX4_hasLostItsRest_20 : decode cX4_hasLostItsRest 20 = .ok (.goto 27, 3) := by decide +kernel
theorem dX4_hasLostItsRest_23 : decode cX4_hasLostItsRest 23 = .ok (.aload_n 0, 1) := by decide +kernel
theorem dX4_hasLostItsRest_24 : decode cX4_hasLostItsRest 24 = .ok (.getfield 11, 3) := by decide +kernel
theorem dX4_hasLostItsRest_27 : decode cX4_hasLostItsRest 27 = .ok (.iload_n 1, 1) := by decide +kernel
theorem dX4_hasLostItsRest_28 : decode cX4_hasLostItsRest 28 = .ok (.aaload, 1) := by decide +kernel
theorem dX4_hasLostItsRest_29 : decode cX4_hasLostItsRest 29 = .ok (.getfield 69, 3) := by decide +kernel
theorem dX4_hasLostItsRest_32 : decode cX4_hasLostItsRest 32 = .ok (.bipush (-20), 2) := by decide +kernel
theorem dX4_hasLostItsRest_34 : decode cX4_hasLostItsRest 34 = .ok (.if_icmp .gt 12, 3) := by decide +kernel
theorem dX4_hasLostItsRest_37 : decode cX4_hasLostItsRest 37 = .ok (.aload_n 0, 1) := by decide +kernel
theorem dX4_hasLostItsRest_38 : decode cX4_hasLostItsRest 38 = .ok (.getfield 30, 3) := by decide +kernel
theorem dX4_hasLostItsRest_41 : decode cX4_hasLostItsRest 41 = .ok (.iload_n 1, 1) := by decide +kernel
theorem dX4_hasLostItsRest_42 : decode cX4_hasLostItsRest 42 = .ok (.iaload, 1) := by decide +kernel
theorem dX4_hasLostItsRest_43 : decode cX4_hasLostItsRest 43 = .ok (.goto 4, 3) := by decide +kernel
theorem dX4_hasLostItsRest_46 : decode cX4_hasLostItsRest 46 = .ok (.iconst (-1), 1) := by decide +kernel
theorem dX4_hasLostItsRest_47 : decode cX4_hasLostItsRest 47 = .ok (.istore_n 2, 1) := by decide +kernel
theorem dX4_hasLostItsRest_48 : decode cX4_hasLostItsRest 48 = .ok (.iload_n 2, 1) := by decide +kernel
theorem dX4_hasLostItsRest_49 : decode cX4_hasLostItsRest 49 = .ok (.ifCond .lt 19, 3) := by decide +kernel
theorem dX4_hasLostItsRest_52 : decode cX4_hasLostItsRest 52 = .ok (.aload_n 0, 1) := by decide +kernel
theorem dX4_hasLostItsRest_53 : decode cX4_hasLostItsRest 53 = .ok (.getfield 11, 3) := by decide +kernel
theorem dX4_hasLostItsRest_56 : decode cX4_hasLostItsRest 56 = .ok (.iload_n 2, 1) := by decide +kernel
theorem dX4_hasLostItsRest_57 : decode cX4_hasLostItsRest 57 = .ok (.aaload, 1) := by decide +kernel
theorem dX4_hasLostItsRest_58 : decode cX4_hasLostItsRest 58 = .ok (.getfield 129, 3) := by decide +kernel
theorem dX4_hasLostItsRest_61 : decode cX4_hasLostItsRest 61 = .ok (.ifCond .ne 7, 3) := by decide +kernel
theorem dX4_hasLostItsRest_64 : decode cX4_hasLostItsRest 64 = .ok (.iconst 1, 1) := by decide +kernel
theorem dX4_hasLostItsRest_65 : decode cX4_hasLostItsRest 65 = .ok (.goto 4, 3) := by decide +kernel
theorem dX4_hasLostItsRest_68 : decode cX4_hasLostItsRest 68 = .ok (.iconst 0, 1) := by decide +kernel
theorem dX4_hasLostItsRest_69 : decode cX4_hasLostItsRest 69 = .ok (.ireturn, 1) := by decide +kernel
theorem dX4_goOn_0 : decode cX4_goOn 0 = .ok (.iconst 1, 1) := by decide +kernel
theorem dX4_goOn_1 : decode cX4_goOn 1 = .ok (.istore_n 2, 1) := by decide +kernel
theorem dX4_goOn_2 : decode cX4_goOn 2 = .ok (.iload_n 2, 1) := by decide +kernel
theorem dX4_goOn_3 : decode cX4_goOn 3 = .ok (.iload_n 1, 1) := by decide +kernel
theorem dX4_goOn_4 : decode cX4_goOn 4 = .ok (.if_icmp .gt 46, 3) := by decide +kernel
theorem dX4_goOn_7 : decode cX4_goOn 7 = .ok (.aload_n 0, 1) := by decide +kernel
theorem dX4_goOn_8 : decode cX4_goOn 8 = .ok (.invokevirtual 165, 3) := by decide +kernel
theorem dX4_goOn_11 : decode cX4_goOn 11 = .ok (.ifCond .ne 33, 3) := by decide +kernel
theorem dX4_goOn_14 : decode cX4_goOn 14 = .ok (.aload_n 0, 1) := by decide +kernel
theorem dX4_goOn_15 : decode cX4_goOn 15 = .ok (.dup, 1) := by decide +kernel
theorem dX4_goOn_16 : decode cX4_goOn 16 = .ok (.getfield 46, 3) := by decide +kernel
theorem dX4_goOn_19 : decode cX4_goOn 19 = .ok (.iload_n 1, 1) := by decide +kernel
theorem dX4_goOn_20 : decode cX4_goOn 20 = .ok (.iload_n 2, 1) := by decide +kernel
theorem dX4_goOn_21 : decode cX4_goOn 21 = .ok (.isub, 1) := by decide +kernel
theorem dX4_goOn_22 : decode cX4_goOn 22 = .ok (.aload_n 0, 1) := by decide +kernel
theorem dX4_goOn_23 : decode cX4_goOn 23 = .ok (.invokevirtual 156, 3) := by decide +kernel
theorem dX4_goOn_26 : decode cX4_goOn 26 = .ok (.imul, 1) := by decide +kernel
theorem dX4_goOn_27 : decode cX4_goOn 27 = .ok (.iadd, 1) := by decide +kernel
theorem dX4_goOn_28 : decode cX4_goOn 28 = .ok (.putfield 46, 3) := by decide +kernel
theorem dX4_goOn_31 : decode cX4_goOn 31 = .ok (.aload_n 0, 1) := by decide +kernel
theorem dX4_goOn_32 : decode cX4_goOn 32 = .ok (.dup, 1) := by decide +kernel
theorem dX4_goOn_33 : decode cX4_goOn 33 = .ok (.getfield 49, 3) := by decide +kernel
theorem dX4_goOn_36 : decode cX4_goOn 36 = .ok (.iload_n 1, 1) := by decide +kernel
theorem dX4_goOn_37 : decode cX4_goOn 37 = .ok (.iload_n 2, 1) := by decide +kernel
theorem dX4_goOn_38 : decode cX4_goOn 38 = .ok (.isub, 1) := by decide +kernel
theorem dX4_goOn_39 : decode cX4_goOn 39 = .ok (.iadd, 1) := by decide +kernel
theorem dX4_goOn_40 : decode cX4_goOn 40 = .ok (.putfield 49, 3) := by decide +kernel
theorem dX4_goOn_43 : decode cX4_goOn 43 = .ok (.return_, 1) := by decide +kernel
theorem dX4_goOn_44 : decode cX4_goOn 44 = .ok (.iinc 2 1, 3) := by decide +kernel
theorem dX4_goOn_47 : decode cX4_goOn 47 = .ok (.goto (-45), 3) := by decide +kernel
theorem dX4_goOn_50 : decode cX4_goOn 50 = .ok (.return_, 1) := by decide +kernel
theorem dX4_firstFall_0 : decode cX4_firstFall 0 = .ok (.aload_n 0, 1) := by decide +kernel
theorem dX4_firstFall_1 : decode cX4_firstFall 1 = .ok (.invokevirtual 168, 3) := by decide +kernel
theorem dX4_firstFall_4 : decode cX4_firstFall 4 = .ok (.istore_n 2, 1) := by decide +kernel
theorem dX4_firstFall_5 : decode cX4_firstFall 5 = .ok (.iconst 1, 1) := by decide +kernel
theorem dX4_firstFall_6 : decode cX4_firstFall 6 = .ok (.istore_n 3, 1) := by decide +kernel
theorem dX4_firstFall_7 : decode cX4_firstFall 7 = .ok (.iload_n 3, 1) := by decide +kernel
theorem dX4_firstFall_8 : decode cX4_firstFall 8 = .ok (.iload_n 1, 1) := by decide +kernel
theorem dX4_firstFall_9 : decode cX4_firstFall 9 = .ok (.if_icmp .gt 32, 3) := by decide +kernel
theorem dX4_firstFall_12 : decode cX4_firstFall 12 = .ok (.aload_n 0, 1) := by decide +kernel
theorem dX4_firstFall_13 : decode cX4_firstFall 13 = .ok (.invokevirtual 165, 3) := by decide +kernel
theorem dX4_firstFall_16 : decode cX4_firstFall 16 = .ok (.istore 4, 2) := by decide +kernel
theorem dX4_firstFall_18 : decode cX4_firstFall 18 = .ok (.aload_n 0, 1) := by decide +kernel
theorem dX4_firstFall_19 : decode cX4_firstFall 19 = .ok (.invokevirtual 168, 3) := by decide +kernel
theorem dX4_firstFall_22 : decode cX4_firstFall 22 = .ok (.iload_n 2, 1) := by decide +kernel
theorem dX4_firstFall_23 : decode cX4_firstFall 23 = .ok (.if_icmp .ge 5, 3) := by decide +kernel
theorem dX4_firstFall_26 : decode cX4_firstFall 26 = .ok (.iload_n 3, 1) := by decide +kernel
theorem dX4_firstFall_27 : decode cX4_firstFall 27 = .ok (.ireturn, 1) := by decide +kernel
theorem dX4_firstFall_28 : decode cX4_firstFall 28 = .ok (.iload 4, 2) := by decide +kernel
theorem dX4_firstFall_30 : decode cX4_firstFall 30 = .ok (.ifCond .ne 5, 3) := by decide +kernel
theorem dX4_firstFall_33 : decode cX4_firstFall 33 = .ok (.iconst 0, 1) := by decide +kernel
theorem dX4_firstFall_34 : decode cX4_firstFall 34 = .ok (.ireturn, 1) := by decide +kernel
theorem dX4_firstFall_35 : decode cX4_firstFall 35 = .ok (.iinc 3 1, 3) := by decide +kernel
theorem dX4_firstFall_38 : decode cX4_firstFall 38 = .ok (.goto (-31), 3) := by decide +kernel
theorem dX4_firstFall_41 : decode cX4_firstFall 41 = .ok (.iconst 0, 1) := by decide +kernel
theorem dX4_firstFall_42 : decode cX4_firstFall 42 = .ok (.ireturn, 1) := by decide +kernel
theorem dX4_standing_0 : decode cX4_standing 0 = .ok (.iconst 0, 1) := by decide +kernel
theorem dX4_standing_1 : decode cX4_standing 1 = .ok (.istore_n 1, 1) := by decide +kernel
theorem dX4_standing_2 : decode cX4_standing 2 = .ok (.iconst 0, 1) := by decide +kernel
theorem dX4_standing_3 : decode cX4_standing 3 = .ok (.istore_n 2, 1) := by decide +kernel
theorem dX4_standing_4 : decode cX4_standing 4 = .ok (.iload_n 2, 1) := by decide +kernel
theorem dX4_standing_5 : decode cX4_standing 5 = .ok (.aload_n 0, 1) := by decide +kernel
theorem dX4_standing_6 : decode cX4_standing 6 = .ok (.getfield 36, 3) := by decide +kernel
theorem dX4_standing_9 : decode cX4_standing 9 = .ok (.if_icmp .ge 27, 3) := by decide +kernel
theorem dX4_standing_12 : decode cX4_standing 12 = .ok (.aload_n 0, 1) := by decide +kernel
theorem dX4_standing_13 : decode cX4_standing 13 = .ok (.getfield 11, 3) := by decide +kernel
theorem dX4_standing_16 : decode cX4_standing 16 = .ok (.iload_n 2, 1) := by decide +kernel
theorem dX4_standing_17 : decode cX4_standing 17 = .ok (.aaload, 1) := by decide +kernel
theorem dX4_standing_18 : decode cX4_standing 18 = .ok (.getfield 129, 3) := by decide +kernel
theorem dX4_standing_21 : decode cX4_standing 21 = .ok (.ifCond .eq 9, 3) := by decide +kernel
theorem dX4_standing_24 : decode cX4_standing 24 = .ok (.iload_n 1, 1) := by decide +kernel
theorem dX4_standing_25 : decode cX4_standing 25 = .ok (.iconst 1, 1) := by decide +kernel
theorem dX4_standing_26 : decode cX4_standing 26 = .ok (.iload_n 2, 1) := by decide +kernel
theorem dX4_standing_27 : decode cX4_standing 27 = .ok (.ishl, 1) := by decide +kernel
theorem dX4_standing_28 : decode cX4_standing 28 = .ok (.ior, 1) := by decide +kernel
theorem dX4_standing_29 : decode cX4_standing 29 = .ok (.istore_n 1, 1) := by decide +kernel
theorem dX4_standing_30 : decode cX4_standing 30 = .ok (.iinc 2 1, 3) := by decide +kernel
theorem dX4_standing_33 : decode cX4_standing 33 = .ok (.goto (-29), 3) := by decide +kernel
theorem dX4_standing_36 : decode cX4_standing 36 = .ok (.iload_n 1, 1) := by decide +kernel
theorem dX4_standing_37 : decode cX4_standing 37 = .ok (.ireturn, 1) := by decide +kernel
theorem dX4_crackedSince_0 : decode cX4_crackedSince 0 = .ok (.iconst 0, 1) := by decide +kernel
theorem dX4_crackedSince_1 : decode cX4_crackedSince 1 = .ok (.istore_n 2, 1) := by decide +kernel
theorem dX4_crackedSince_2 : decode cX4_crackedSince 2 = .ok (.iconst 0, 1) := by decide +kernel
theorem dX4_crackedSince_3 : decode cX4_crackedSince 3 = .ok (.istore_n 3, 1) := by decide +kernel
theorem dX4_crackedSince_4 : decode cX4_crackedSince 4 = .ok (.iload_n 3, 1) := by decide +kernel
theorem dX4_crackedSince_5 : decode cX4_crackedSince 5 = .ok (.aload_n 0, 1) := by decide +kernel
theorem dX4_crackedSince_6 : decode cX4_crackedSince 6 = .ok (.getfield 36, 3) := by decide +kernel
theorem dX4_crackedSince_9 : decode cX4_crackedSince 9 = .ok (.if_icmp .ge 44, 3) := by decide +kernel
theorem dX4_crackedSince_12 : decode cX4_crackedSince 12 = .ok (.iload_n 3, 1) := by decide +kernel
theorem dX4_crackedSince_13 : decode cX4_crackedSince 13 = .ok (.aload_n 1, 1) := by decide +kernel
theorem dX4_crackedSince_14 : decode cX4_crackedSince 14 = .ok (.getfield 36, 3) := by decide +kernel
theorem dX4_crackedSince_17 : decode cX4_crackedSince 17 = .ok (.if_icmp .ge 36, 3) := by decide +kernel
theorem dX4_crackedSince_20 : decode cX4_crackedSince 20 = .ok (.aload_n 0, 1) := by decide +kernel
theorem dX4_crackedSince_21 : decode cX4_crackedSince 21 = .ok (.getfield 11, 3) := by decide +kernel
theorem dX4_crackedSince_24 : decode cX4_crackedSince 24 = .ok (.iload_n 3, 1) := by decide +kernel
theorem dX4_crackedSince_25 : decode cX4_crackedSince 25 = .ok (.aaload, 1) := by decide +kernel
theorem dX4_crackedSince_26 : decode cX4_crackedSince 26 = .ok (.getfield 115, 3) := by decide +kernel
theorem dX4_crackedSince_29 : decode cX4_crackedSince 29 = .ok (.aload_n 1, 1) := by decide +kernel
theorem dX4_crackedSince_30 : decode cX4_crackedSince 30 = .ok (.getfield 11, 3) := by decide +kernel
theorem dX4_crackedSince_33 : decode cX4_crackedSince 33 = .ok (.iload_n 3, 1) := by decide +kernel
theorem dX4_crackedSince_34 : decode cX4_crackedSince 34 = .ok (.aaload, 1) := by decide +kernel
theorem dX4_crackedSince_35 : decode cX4_crackedSince 35 = .ok (.getfield 115, 3) := by decide +kernel
theorem dX4_crackedSince_38 : decode cX4_crackedSince 38 = .ok (.if_icmp .le 9, 3) := by decide +kernel
theorem dX4_crackedSince_41 : decode cX4_crackedSince 41 = .ok (.iload_n 2, 1) := by decide +kernel
theorem dX4_crackedSince_42 : decode cX4_crackedSince 42 = .ok (.iconst 1, 1) := by decide +kernel
theorem dX4_crackedSince_43 : decode cX4_crackedSince 43 = .ok (.iload_n 3, 1) := by decide +kernel
theorem dX4_crackedSince_44 : decode cX4_crackedSince 44 = .ok (.ishl, 1) := by decide +kernel
theorem dX4_crackedSince_45 : decode cX4_crackedSince 45 = .ok (.ior, 1) := by decide +kernel
theorem dX4_crackedSince_46 : decode cX4_crackedSince 46 = .ok (.istore_n 2, 1) := by decide +kernel
theorem dX4_crackedSince_47 : decode cX4_crackedSince 47 = .ok (.iinc 3 1, 3) := by decide +kernel
theorem dX4_crackedSince_50 : decode cX4_crackedSince 50 = .ok (.goto (-46), 3) := by decide +kernel
theorem dX4_crackedSince_53 : decode cX4_crackedSince 53 = .ok (.iload_n 2, 1) := by decide +kernel
theorem dX4_crackedSince_54 : decode cX4_crackedSince 54 = .ok (.ireturn, 1) := by decide +kernel
theorem dX4_howManyStand_0 : decode cX4_howManyStand 0 = .ok (.aload_n 0, 1) := by decide +kernel
theorem dX4_howManyStand_1 : decode cX4_howManyStand 1 = .ok (.invokevirtual 171, 3) := by decide +kernel
theorem dX4_howManyStand_4 : decode cX4_howManyStand 4 = .ok (.invokestatic 174, 3) := by decide +kernel
theorem dX4_howManyStand_7 : decode cX4_howManyStand 7 = .ok (.ireturn, 1) := by decide +kernel
theorem dX4_cracks_0 : decode cX4_cracks 0 = .ok (.iconst 0, 1) := by decide +kernel
theorem dX4_cracks_1 : decode cX4_cracks 1 = .ok (.istore_n 1, 1) := by decide +kernel
theorem dX4_cracks_2 : decode cX4_cracks 2 = .ok (.iconst 0, 1) := by decide +kernel
theorem dX4_cracks_3 : decode cX4_cracks 3 = .ok (.istore_n 2, 1) := by decide +kernel
theorem dX4_cracks_4 : decode cX4_cracks 4 = .ok (.iload_n 2, 1) := by decide +kernel
theorem dX4_cracks_5 : decode cX4_cracks 5 = .ok (.aload_n 0, 1) := by decide +kernel
theorem dX4_cracks_6 : decode cX4_cracks 6 = .ok (.getfield 36, 3) := by decide +kernel
theorem dX4_cracks_9 : decode cX4_cracks 9 = .ok (.if_icmp .ge 21, 3) := by decide +kernel
theorem dX4_cracks_12 : decode cX4_cracks 12 = .ok (.iload_n 1, 1) := by decide +kernel
theorem dX4_cracks_13 : decode cX4_cracks 13 = .ok (.aload_n 0, 1) := by decide +kernel
theorem dX4_cracks_14 : decode cX4_cracks 14 = .ok (.getfield 11, 3) := by decide +kernel
theorem dX4_cracks_17 : decode cX4_cracks 17 = .ok (.iload_n 2, 1) := by decide +kernel
theorem dX4_cracks_18 : decode cX4_cracks 18 = .ok (.aaload, 1) := by decide +kernel
theorem dX4_cracks_19 : decode cX4_cracks 19 = .ok (.getfield 115, 3) := by decide +kernel
theorem dX4_cracks_22 : decode cX4_cracks 22 = .ok (.iadd, 1) := by decide +kernel
theorem dX4_cracks_23 : decode cX4_cracks 23 = .ok (.istore_n 1, 1) := by decide +kernel
theorem dX4_cracks_24 : decode cX4_cracks 24 = .ok (.iinc 2 1, 3) := by decide +kernel
theorem dX4_cracks_27 : decode cX4_cracks 27 = .ok (.goto (-23), 3) := by decide +kernel
theorem dX4_cracks_30 : decode cX4_cracks 30 = .ok (.iload_n 1, 1) := by decide +kernel
theorem dX4_cracks_31 : decode cX4_cracks 31 = .ok (.ireturn, 1) := by decide +kernel
theorem dX4_props_0 : decode cX4_props 0 = .ok (.iconst 0, 1) := by decide +kernel
theorem dX4_props_1 : decode cX4_props 1 = .ok (.istore_n 1, 1) := by decide +kernel
theorem dX4_props_2 : decode cX4_props 2 = .ok (.iconst 0, 1) := by decide +kernel
theorem dX4_props_3 : decode cX4_props 3 = .ok (.istore_n 2, 1) := by decide +kernel
theorem dX4_props_4 : decode cX4_props 4 = .ok (.iload_n 2, 1) := by decide +kernel
theorem dX4_props_5 : decode cX4_props 5 = .ok (.aload_n 0, 1) := by decide +kernel
theorem dX4_props_6 : decode cX4_props 6 = .ok (.getfield 36, 3) := by decide +kernel
theorem dX4_props_9 : decode cX4_props 9 = .ok (.if_icmp .ge 21, 3) := by decide +kernel
theorem dX4_props_12 : decode cX4_props 12 = .ok (.iload_n 1, 1) := by decide +kernel
theorem dX4_props_13 : decode cX4_props 13 = .ok (.aload_n 0, 1) := by decide +kernel
theorem dX4_props_14 : decode cX4_props 14 = .ok (.getfield 11, 3) := by decide +kernel
theorem dX4_props_17 : decode cX4_props 17 = .ok (.iload_n 2, 1) := by decide +kernel
theorem dX4_props_18 : decode cX4_props 18 = .ok (.aaload, 1) := by decide +kernel
theorem dX4_props_19 : decode cX4_props 19 = .ok (.getfield 75, 3) := by decide +kernel
theorem dX4_props_22 : decode cX4_props 22 = .ok (.iadd, 1) := by decide +kernel
theorem dX4_props_23 : decode cX4_props 23 = .ok (.istore_n 1, 1) := by decide +kernel
theorem dX4_props_24 : decode cX4_props 24 = .ok (.iinc 2 1, 3) := by decide +kernel
theorem dX4_props_27 : decode cX4_props 27 = .ok (.goto (-23), 3) := by decide +kernel
theorem dX4_props_30 : decode cX4_props 30 = .ok (.iload_n 1, 1) := by decide +kernel
theorem dX4_props_31 : decode cX4_props 31 = .ok (.ireturn, 1) := by decide +kernel
