theorem dX6_init_0 : decode cX6_init 0 = .ok (.aload_n 0, 1) := by decide +kernel
theorem dX6_init_1 : decode cX6_init 1 = .ok (.invokespecial 1, 3) := by decide +kernel
theorem dX6_init_4 : decode cX6_init 4 = .ok (.aload_n 0, 1) := by decide +kernel
theorem dX6_init_5 : decode cX6_init 5 = .ok (.new 7, 3) := by decide +kernel
theorem dX6_init_8 : decode cX6_init 8 = .ok (.dup, 1) := by decide +kernel
theorem dX6_init_9 : decode cX6_init 9 = .ok (.invokespecial 9, 3) := by decide +kernel
theorem dX6_init_12 : decode cX6_init 12 = .ok (.putfield 10, 3) := by decide +kernel
theorem dX6_init_15 : decode cX6_init 15 = .ok (.aload_n 0, 1) := by decide +kernel
theorem dX6_init_16 : decode cX6_init 16 = .ok (.new 7, 3) := by decide +kernel
theorem dX6_init_19 : decode cX6_init 19 = .ok (.dup, 1) := by decide +kernel
theorem dX6_init_20 : decode cX6_init 20 = .ok (.invokespecial 9, 3) := by decide +kernel
theorem dX6_init_23 : decode cX6_init 23 = .ok (.putfield 16, 3) := by decide +kernel
theorem dX6_init_26 : decode cX6_init 26 = .ok (.aload_n 0, 1) := by decide +kernel
theorem dX6_init_27 : decode cX6_init 27 = .ok (.new 7, 3) := by decide +kernel
theorem dX6_init_30 : decode cX6_init 30 = .ok (.dup, 1) := by decide +kernel
theorem dX6_init_31 : decode cX6_init 31 = .ok (.invokespecial 9, 3) := by decide +kernel
theorem dX6_init_34 : decode cX6_init 34 = .ok (.putfield 19, 3) := by decide +kernel
theorem dX6_init_37 : decode cX6_init 37 = .ok (.aload_n 0, 1) := by decide +kernel
theorem dX6_init_38 : decode cX6_init 38 = .ok (.new 22, 3) := by decide +kernel
theorem dX6_init_41 : decode cX6_init 41 = .ok (.dup, 1) := by decide +kernel
theorem dX6_init_42 : decode cX6_init 42 = .ok (.invokespecial 24, 3) := by decide +kernel
theorem dX6_init_45 : decode cX6_init 45 = .ok (.putfield 25, 3) := by decide +kernel
theorem dX6_init_48 : decode cX6_init 48 = .ok (.aload_n 0, 1) := by decide +kernel
theorem dX6_init_49 : decode cX6_init 49 = .ok (.iconst 4, 1) := by decide +kernel
theorem dX6_init_50 : decode cX6_init 50 = .ok (.anewarray 29, 3) := by decide +kernel
theorem dX6_init_53 : decode cX6_init 53 = .ok (.putfield 31, 3) := by decide +kernel
theorem dX6_init_56 : decode cX6_init 56 = .ok (.aload_n 0, 1) := by decide +kernel
theorem dX6_init_57 : decode cX6_init 57 = .ok (.iconst 5, 1) := by decide +kernel
theorem dX6_init_58 : decode cX6_init 58 = .ok (.anewarray 35, 3) := by decide +kernel
theorem dX6_init_61 : decode cX6_init 61 = .ok (.putfield 37, 3) := by decide +kernel
theorem dX6_init_64 : decode cX6_init 64 = .ok (.aload_n 0, 1) := by decide +kernel
theorem dX6_init_65 : decode cX6_init 65 = .ok (.bipush 60, 2) := by decide +kernel
theorem dX6_init_67 : decode cX6_init 67 = .ok (.newarray .int, 2) := by decide +kernel
theorem dX6_init_69 : decode cX6_init 69 = .ok (.putfield 41, 3) := by decide +kernel
theorem dX6_init_72 : decode cX6_init 72 = .ok (.aload_n 0, 1) := by decide +kernel
theorem dX6_init_73 : decode cX6_init 73 = .ok (.iconst 0, 1) := by decide +kernel
theorem dX6_init_74 : decode cX6_init 74 = .ok (.putfield 45, 3) := by decide +kernel
theorem dX6_init_77 : decode cX6_init 77 = .ok (.aload_n 0, 1) := by decide +kernel
theorem dX6_init_78 : decode cX6_init 78 = .ok (.iconst 0, 1) := by decide +kernel
theorem dX6_init_79 : decode cX6_init 79 = .ok (.putfield 49, 3) := by decide +kernel
theorem dX6_init_82 : decode cX6_init 82 = .ok (.iconst 0, 1) := by decide +kernel
theorem dX6_init_83 : decode cX6_init 83 = .ok (.istore_n 1, 1) := by decide +kernel
theorem dX6_init_84 : decode cX6_init 84 = .ok (.iload_n 1, 1) := by decide +kernel
theorem dX6_init_85 : decode cX6_init 85 = .ok (.iconst 4, 1) := by decide +kernel
theorem dX6_init_86 : decode cX6_init 86 = .ok (.if_icmp .ge 22, 3) := by decide +kernel
theorem dX6_init_89 : decode cX6_init 89 = .ok (.aload_n 0, 1) := by decide +kernel
theorem dX6_init_90 : decode cX6_init 90 = .ok (.getfield 31, 3) := by decide +kernel
theorem dX6_init_93 : decode cX6_init 93 = .ok (.iload_n 1, 1) := by decide +kernel
theorem dX6_init_94 : decode cX6_init 94 = .ok (.new 29, 3) := by decide +kernel
theorem dX6_init_97 : decode cX6_init 97 = .ok (.dup, 1) := by decide +kernel
theorem dX6_init_98 : decode cX6_init 98 = .ok (.invokespecial 53, 3) := by decide +kernel
theorem dX6_init_101 : decode cX6_init 101 = .ok (.aastore, 1) := by decide +kernel
theorem dX6_init_102 : decode cX6_init 102 = .ok (.iinc 1 1, 3) := by decide +kernel
theorem dX6_init_105 : decode cX6_init 105 = .ok (.goto (-21), 3) := by decide +kernel
theorem dX6_init_108 : decode cX6_init 108 = .ok (.iconst 0, 1) := by decide +kernel
theorem dX6_init_109 : decode cX6_init 109 = .ok (.istore_n 1, 1) := by decide +kernel
theorem dX6_init_110 : decode cX6_init 110 = .ok (.iload_n 1, 1) := by decide +kernel
theorem dX6_init_111 : decode cX6_init 111 = .ok (.iconst 5, 1) := by decide +kernel
theorem dX6_init_112 : decode cX6_init 112 = .ok (.if_icmp .ge 22, 3) := by decide +kernel
theorem dX6_init_115 : decode cX6_init 115 = .ok (.aload_n 0, 1) := by decide +kernel
theorem dX6_init_116 : decode cX6_init 116 = .ok (.getfield 37, 3) := by decide +kernel
theorem dX6_init_119 : decode cX6_init 119 = .ok (.iload_n 1, 1) := by decide +kernel
theorem dX6_init_120 : decode cX6_init 120 = .ok (.new 35, 3) := by decide +kernel
theorem dX6_init_123 : decode cX6_init 123 = .ok (.dup, 1) := by decide +kernel
theorem dX6_init_124 : decode cX6_init 124 = .ok (.invokespecial 54, 3) := by decide +kernel
theorem dX6_init_127 : decode cX6_init 127 = .ok (.aastore, 1) := by decide +kernel
theorem dX6_init_128 : decode cX6_init 128 = .ok (.iinc 1 1, 3) := by decide +kernel
theorem dX6_init_131 : decode cX6_init 131 = .ok (.goto (-21), 3) := by decide +kernel
theorem dX6_init_134 : decode cX6_init 134 = .ok (.return_, 1) := by decide +kernel
theorem dX6_house_0 : decode cX6_house 0 = .ok (.iconst 0, 1) := by decide +kernel
theorem dX6_house_1 : decode cX6_house 1 = .ok (.iload_n 1, 1) := by decide +kernel
theorem dX6_house_2 : decode cX6_house 2 = .ok (.invokestatic 55, 3) := by decide +kernel
theorem dX6_house_5 : decode cX6_house 5 = .ok (.ifCond .eq 28, 3) := by decide +kernel
theorem dX6_house_8 : decode cX6_house 8 = .ok (.iconst 1, 1) := by decide +kernel
theorem dX6_house_9 : decode cX6_house 9 = .ok (.iload_n 2, 1) := by decide +kernel
theorem dX6_house_10 : decode cX6_house 10 = .ok (.invokestatic 55, 3) := by decide +kernel
theorem dX6_house_13 : decode cX6_house 13 = .ok (.ifCond .eq 20, 3) := by decide +kernel
theorem dX6_house_16 : decode cX6_house 16 = .ok (.iconst 2, 1) := by decide +kernel
theorem dX6_house_17 : decode cX6_house 17 = .ok (.iload_n 3, 1) := by decide +kernel
theorem dX6_house_18 : decode cX6_house 18 = .ok (.invokestatic 55, 3) := by decide +kernel
theorem dX6_house_21 : decode cX6_house 21 = .ok (.ifCond .eq 12, 3) := by decide +kernel
theorem dX6_house_24 : decode cX6_house 24 = .ok (.iconst 3, 1) := by decide +kernel
theorem dX6_house_25 : decode cX6_house 25 = .ok (.iload 4, 2) := by decide +kernel
theorem dX6_house_27 : decode cX6_house 27 = .ok (.invokestatic 55, 3) := by decide +kernel
theorem dX6_house_30 : decode cX6_house 30 = .ok (.ifCond .ne 6, 3) := by decide +kernel
theorem dX6_house_33 : decode cX6_house 33 = .ok (.ldc 59, 2) := by decide +kernel
theorem dX6_house_35 : decode cX6_house 35 = .ok (.ireturn, 1) := by decide +kernel
theorem dX6_house_36 : decode cX6_house 36 = .ok (.aload_n 0, 1) := by decide +kernel
theorem dX6_house_37 : decode cX6_house 37 = .ok (.getfield 10, 3) := by decide +kernel
theorem dX6_house_40 : decode cX6_house 40 = .ok (.getfield 60, 3) := by decide +kernel
theorem dX6_house_43 : decode cX6_house 43 = .ok (.bipush 9, 2) := by decide +kernel
theorem dX6_house_45 : decode cX6_house 45 = .ok (.if_icmp .lt 6, 3) := by decide +kernel
theorem dX6_house_48 : decode cX6_house 48 = .ok (.ldc 63, 2) := by decide +kernel
theorem dX6_house_50 : decode cX6_house 50 = .ok (.ireturn, 1) := by decide +kernel
theorem dX6_house_51 : decode cX6_house 51 = .ok (.aload_n 0, 1) := by decide +kernel
theorem dX6_house_52 : decode cX6_house 52 = .ok (.getfield 10, 3) := by decide +kernel
theorem dX6_house_55 : decode cX6_house 55 = .ok (.iload_n 1, 1) := by decide +kernel
theorem dX6_house_56 : decode cX6_house 56 = .ok (.iload_n 2, 1) := by decide +kernel
theorem dX6_house_57 : decode cX6_house 57 = .ok (.iload_n 3, 1) := by decide +kernel
theorem dX6_house_58 : decode cX6_house 58 = .ok (.iload 4, 2) := by decide +kernel
theorem dX6_house_60 : decode cX6_house 60 = .ok (.invokevirtual 64, 3) := by decide +kernel
theorem dX6_house_63 : decode cX6_house 63 = .ok (.aload_n 0, 1) := by decide +kernel
theorem dX6_house_64 : decode cX6_house 64 = .ok (.getfield 10, 3) := by decide +kernel
theorem dX6_house_67 : decode cX6_house 67 = .ok (.getfield 60, 3) := by decide +kernel
theorem dX6_house_70 : decode cX6_house 70 = .ok (.iconst 1, 1) := by decide +kernel
theorem dX6_house_71 : decode cX6_house 71 = .ok (.isub, 1) := by decide +kernel
theorem dX6_house_72 : decode cX6_house 72 = .ok (.ireturn, 1) := by decide +kernel
theorem dX6_told_0 : decode cX6_told 0 = .ok (.aload_n 0, 1) := by decide +kernel
theorem dX6_told_1 : decode cX6_told 1 = .ok (.iload_n 1, 1) := by decide +kernel
theorem dX6_told_2 : decode cX6_told 2 = .ok (.invokevirtual 68, 3) := by decide +kernel
theorem dX6_told_5 : decode cX6_told 5 = .ok (.ifCond .eq 13, 3) := by decide +kernel
theorem dX6_told_8 : decode cX6_told 8 = .ok (.iload_n 2, 1) := by decide +kernel
theorem dX6_told_9 : decode cX6_told 9 = .ok (.ifCond .lt 9, 3) := by decide +kernel
theorem dX6_told_12 : decode cX6_told 12 = .ok (.iload_n 2, 1) := by decide +kernel
theorem dX6_told_13 : decode cX6_told 13 = .ok (.bipush 10, 2) := by decide +kernel
theorem dX6_told_15 : decode cX6_told 15 = .ok (.if_icmp .le 6, 3) := by decide +kernel
theorem dX6_told_18 : decode cX6_told 18 = .ok (.ldc 59, 2) := by decide +kernel
theorem dX6_told_20 : decode cX6_told 20 = .ok (.ireturn, 1) := by decide +kernel
theorem dX6_told_21 : decode cX6_told 21 = .ok (.aload_n 0, 1) := by decide +kernel
theorem dX6_told_22 : decode cX6_told 22 = .ok (.getfield 10, 3) := by decide +kernel
theorem dX6_told_25 : decode cX6_told 25 = .ok (.getfield 72, 3) := by decide +kernel
theorem dX6_told_28 : decode cX6_told 28 = .ok (.iload_n 1, 1) := by decide +kernel
theorem dX6_told_29 : decode cX6_told 29 = .ok (.aaload, 1) := by decide +kernel
theorem dX6_told_30 : decode cX6_told 30 = .ok (.astore_n 3, 1) := by decide +kernel
theorem dX6_told_31 : decode cX6_told 31 = .ok (.iload_n 2, 1) := by decide +kernel
theorem dX6_told_32 : decode cX6_told 32 = .ok (.tableswitch 85 6 10 #[36, 49, 58, 63, 80], 36) := by decide +kernel
theorem dX6_told_68 : decode cX6_told 68 = .ok (.aload_n 3, 1) := by decide +kernel
theorem dX6_told_69 : decode cX6_told 69 = .ok (.getfield 76, 3) := by decide +kernel
theorem dX6_told_72 : decode cX6_told 72 = .ok (.ifCond .eq 7, 3) := by decide +kernel
theorem dX6_told_75 : decode cX6_told 75 = .ok (.iconst 1, 1) := by decide +kernel
theorem dX6_told_76 : decode cX6_told 76 = .ok (.goto 4, 3) := by decide +kernel
theorem dX6_told_79 : decode cX6_told 79 = .ok (.iconst 0, 1) := by decide +kernel
theorem dX6_told_80 : decode cX6_told 80 = .ok (.ireturn, 1) := by decide +kernel
theorem dX6_told_81 : decode cX6_told 81 = .ok (.aload_n 0, 1) := by decide +kernel
theorem dX6_told_82 : decode cX6_told 82 = .ok (.getfield 10, 3) := by decide +kernel
theorem dX6_told_85 : decode cX6_told 85 = .ok (.aload_n 3, 1) := by decide +kernel
theorem dX6_told_86 : decode cX6_told 86 = .ok (.invokevirtual 81, 3) := by decide +kernel
theorem dX6_told_89 : decode cX6_told 89 = .ok (.ireturn, 1) := by decide +kernel
theorem dX6_told_90 : decode cX6_told 90 = .ok (.aload_n 3, 1) := by decide +kernel
theorem dX6_told_91 : decode cX6_told 91 = .ok (.invokevirtual 85, 3) := by decide +kernel
theorem dX6_told_94 : decode cX6_told 94 = .ok (.ireturn, 1) := by decide +kernel
theorem dX6_told_95 : decode cX6_told 95 = .ok (.aload_n 0, 1) := by decide +kernel
theorem dX6_told_96 : decode cX6_told 96 = .ok (.getfield 10, 3) := by decide +kernel
theorem dX6_told_99 : decode cX6_told 99 = .ok (.invokevirtual 89, 3) := by decide +kernel
theorem dX6_told_102 : decode cX6_told 102 = .ok (.aload_n 0, 1) := by decide +kernel
theorem dX6_told_103 : decode cX6_told 103 = .ok (.getfield 10, 3) := by decide +kernel
theorem dX6_told_106 : decode cX6_told 106 = .ok (.getfield 92, 3) := by decide +kernel
theorem dX6_told_109 : decode cX6_told 109 = .ok (.iload_n 1, 1) := by decide +kernel
theorem dX6_told_110 : decode cX6_told 110 = .ok (.iaload, 1) := by decide +kernel
theorem dX6_told_111 : decode cX6_told 111 = .ok (.ireturn, 1) := by decide +kernel
theorem dX6_told_112 : decode cX6_told 112 = .ok (.aload_n 3, 1) := by decide +kernel
theorem dX6_told_113 : decode cX6_told 113 = .ok (.invokevirtual 95, 3) := by decide +kernel
theorem dX6_told_116 : decode cX6_told 116 = .ok (.ireturn, 1) := by decide +kernel
theorem dX6_told_117 : decode cX6_told 117 = .ok (.aload_n 3, 1) := by decide +kernel
theorem dX6_told_118 : decode cX6_told 118 = .ok (.iload_n 2, 1) := by decide +kernel
theorem dX6_told_119 : decode cX6_told 119 = .ok (.invokevirtual 98, 3) := by decide +kernel
theorem dX6_told_122 : decode cX6_told 122 = .ok (.ireturn, 1) := by decide +kernel
theorem dX6_as_0 : decode cX6_as 0 = .ok (.aload_n 0, 1) := by decide +kernel
theorem dX6_as_1 : decode cX6_as 1 = .ok (.iload_n 1, 1) := by decide +kernel
theorem dX6_as_2 : decode cX6_as 2 = .ok (.invokevirtual 68, 3) := by decide +kernel
theorem dX6_as_5 : decode cX6_as 5 = .ok (.ifCond .eq 10, 3) := by decide +kernel
theorem dX6_as_8 : decode cX6_as 8 = .ok (.iload_n 2, 1) := by decide +kernel
theorem dX6_as_9 : decode cX6_as 9 = .ok (.invokestatic 102, 3) := by decide +kernel
theorem dX6_as_12 : decode cX6_as 12 = .ok (.ifCond .ne 6, 3) := by decide +kernel
theorem dX6_as_15 : decode cX6_as 15 = .ok (.ldc 59, 2) := by decide +kernel
theorem dX6_as_17 : decode cX6_as 17 = .ok (.ireturn, 1) := by decide +kernel
theorem dX6_as_18 : decode cX6_as 18 = .ok (.aload_n 0, 1) := by decide +kernel
theorem dX6_as_19 : decode cX6_as 19 = .ok (.getfield 10, 3) := by decide +kernel
theorem dX6_as_22 : decode cX6_as 22 = .ok (.getfield 72, 3) := by decide +kernel
theorem dX6_as_25 : decode cX6_as 25 = .ok (.iload_n 1, 1) := by decide +kernel
theorem dX6_as_26 : decode cX6_as 26 = .ok (.aaload, 1) := by decide +kernel
theorem dX6_as_27 : decode cX6_as 27 = .ok (.iload_n 2, 1) := by decide +kernel
theorem dX6_as_28 : decode cX6_as 28 = .ok (.invokevirtual 105, 3) := by decide +kernel
theorem dX6_as_31 : decode cX6_as 31 = .ok (.ifCond .eq 18, 3) := by decide +kernel
theorem dX6_as_34 : decode cX6_as 34 = .ok (.aload_n 0, 1) := by decide +kernel
theorem dX6_as_35 : decode cX6_as 35 = .ok (.getfield 10, 3) := by decide +kernel
theorem dX6_as_38 : decode cX6_as 38 = .ok (.getfield 72, 3) := by decide +kernel
theorem dX6_as_41 : decode cX6_as 41 = .ok (.iload_n 1, 1) := by decide +kernel
theorem dX6_as_42 : decode cX6_as 42 = .ok (.aaload, 1) := by decide +kernel
theorem dX6_as_43 : decode cX6_as 43 = .ok (.getfield 108, 3) := by decide +kernel
theorem dX6_as_46 : decode cX6_as 46 = .ok (.goto 5, 3) := by decide +kernel
theorem dX6_as_49 : decode cX6_as 49 = .ok (.ldc 111, 2) := by decide +kernel
theorem dX6_as_51 : decode cX6_as 51 = .ok (.ireturn, 1) := by decide +kernel
theorem dX6_turns_0 : decode cX6_turns 0 = .ok (.aload_n 0, 1) := by decide +kernel
theorem dX6_turns_1 : decode cX6_turns 1 = .ok (.iload_n 1, 1) := by decide +kernel
theorem dX6_turns_2 : decode cX6_turns 2 = .ok (.invokevirtual 68, 3) := by decide +kernel
theorem dX6_turns_5 : decode cX6_turns 5 = .ok (.ifCond .eq 10, 3) := by decide +kernel
theorem dX6_turns_8 : decode cX6_turns 8 = .ok (.iload_n 2, 1) := by decide +kernel
theorem dX6_turns_9 : decode cX6_turns 9 = .ok (.invokestatic 102, 3) := by decide +kernel
theorem dX6_turns_12 : decode cX6_turns 12 = .ok (.ifCond .ne 6, 3) := by decide +kernel
theorem dX6_turns_15 : decode cX6_turns 15 = .ok (.ldc 59, 2) := by decide +kernel
theorem dX6_turns_17 : decode cX6_turns 17 = .ok (.ireturn, 1) := by decide +kernel
theorem dX6_turns_18 : decode cX6_turns 18 = .ok (.aload_n 0, 1) := by decide +kernel
theorem dX6_turns_19 : decode cX6_turns 19 = .ok (.getfield 10, 3) := by decide +kernel
theorem dX6_turns_22 : decode cX6_turns 22 = .ok (.getfield 72, 3) := by decide +kernel
theorem dX6_turns_25 : decode cX6_turns 25 = .ok (.iload_n 1, 1) := by decide +kernel
theorem dX6_turns_26 : decode cX6_turns 26 = .ok (.aaload, 1) := by decide +kernel
theorem dX6_turns_27 : decode cX6_turns 27 = .ok (.getfield 112, 3) := by decide +kernel
theorem dX6_turns_30 : decode cX6_turns 30 = .ok (.istore_n 3, 1) := by decide +kernel
theorem dX6_turns_31 : decode cX6_turns 31 = .ok (.aload_n 0, 1) := by decide +kernel
theorem dX6_turns_32 : decode cX6_turns 32 = .ok (.getfield 10, 3) := by decide +kernel
theorem dX6_turns_35 : decode cX6_turns 35 = .ok (.getfield 72, 3) := by decide +kernel
theorem dX6_turns_38 : decode cX6_turns 38 = .ok (.iload_n 1, 1) := by decide +kernel
theorem dX6_turns_39 : decode cX6_turns 39 = .ok (.aaload, 1) := by decide +kernel
theorem dX6_turns_40 : decode cX6_turns 40 = .ok (.iload_n 2, 1) := by decide +kernel
theorem dX6_turns_41 : decode cX6_turns 41 = .ok (.putfield 112, 3) := by decide +kernel
theorem dX6_turns_44 : decode cX6_turns 44 = .ok (.iload_n 3, 1) := by decide +kernel
theorem dX6_turns_45 : decode cX6_turns 45 = .ok (.ireturn, 1) := by decide +kernel
theorem dX6_set_0 : decode cX6_set 0 = .ok (.aload_n 0, 1) := by decide +kernel
theorem dX6_set_1 : decode cX6_set 1 = .ok (.iload_n 1, 1) := by decide +kernel
theorem dX6_set_2 : decode cX6_set 2 = .ok (.invokevirtual 68, 3) := by decide +kernel
theorem dX6_set_5 : decode cX6_set 5 = .ok (.ifCond .eq 21, 3) := by decide +kernel
theorem dX6_set_8 : decode cX6_set 8 = .ok (.iload_n 2, 1) := by decide +kernel
theorem dX6_set_9 : decode cX6_set 9 = .ok (.iconst 1, 1) := by decide +kernel
theorem dX6_set_10 : decode cX6_set 10 = .ok (.if_icmp .lt 16, 3) := by decide +kernel
theorem dX6_set_13 : decode cX6_set 13 = .ok (.iload_n 2, 1) := by decide +kernel
theorem dX6_set_14 : decode cX6_set 14 = .ok (.iconst 5, 1) := by decide +kernel
theorem dX6_set_15 : decode cX6_set 15 = .ok (.if_icmp .gt 11, 3) := by decide +kernel
theorem dX6_set_18 : decode cX6_set 18 = .ok (.iload_n 2, 1) := by decide +kernel
theorem dX6_set_19 : decode cX6_set 19 = .ok (.iload_n 3, 1) := by decide +kernel
theorem dX6_set_20 : decode cX6_set 20 = .ok (.invokestatic 55, 3) := by decide +kernel
theorem dX6_set_23 : decode cX6_set 23 = .ok (.ifCond .ne 6, 3) := by decide +kernel
theorem dX6_set_26 : decode cX6_set 26 = .ok (.ldc 59, 2) := by decide +kernel
theorem dX6_set_28 : decode cX6_set 28 = .ok (.ireturn, 1) := by decide +kernel
theorem dX6_set_29 : decode cX6_set 29 = .ok (.aload_n 0, 1) := by decide +kernel
theorem dX6_set_30 : decode cX6_set 30 = .ok (.getfield 10, 3) := by decide +kernel
theorem dX6_set_33 : decode cX6_set 33 = .ok (.getfield 72, 3) := by decide +kernel
theorem dX6_set_36 : decode cX6_set 36 = .ok (.iload_n 1, 1) := by decide +kernel
theorem dX6_set_37 : decode cX6_set 37 = .ok (.aaload, 1) := by decide +kernel
theorem dX6_set_38 : decode cX6_set 38 = .ok (.iload_n 2, 1) := by decide +kernel
theorem dX6_set_39 : decode cX6_set 39 = .ok (.invokevirtual 98, 3) := by decide +kernel
theorem dX6_set_42 : decode cX6_set 42 = .ok (.istore 4, 2) := by decide +kernel
theorem dX6_set_44 : decode cX6_set 44 = .ok (.aload_n 0, 1) := by decide +kernel
theorem dX6_set_45 : decode cX6_set 45 = .ok (.getfield 10, 3) := by decide +kernel
theorem dX6_set_48 : decode cX6_set 48 = .ok (.getfield 72, 3) := by decide +kernel
theorem dX6_set_51 : decode cX6_set 51 = .ok (.iload_n 1, 1) := by decide +kernel
theorem dX6_set_52 : decode cX6_set 52 = .ok (.aaload, 1) := by decide +kernel
theorem dX6_set_53 : decode cX6_set 53 = .ok (.iload_n 2, 1) := by decide +kernel
theorem dX6_set_54 : decode cX6_set 54 = .ok (.iload_n 3, 1) := by decide +kernel
theorem dX6_set_55 : decode cX6_set 55 = .ok (.invokevirtual 115, 3) := by decide +kernel
theorem dX6_set_58 : decode cX6_set 58 = .ok (.iload 4, 2) := by decide +kernel
theorem dX6_set_60 : decode cX6_set 60 = .ok (.ireturn, 1) := by decide +kernel
theorem dX6_fells_0 : decode cX6_fells 0 = .ok (.aload_n 0, 1) := by decide +kernel
theorem dX6_fells_1 : decode cX6_fells 1 = .ok (.iload_n 1, 1) := by decide +kernel
theorem dX6_fells_2 : decode cX6_fells 2 = .ok (.invokevirtual 68, 3) := by decide +kernel
theorem dX6_fells_5 : decode cX6_fells 5 = .ok (.ifCond .ne 6, 3) := by decide +kernel
theorem dX6_fells_8 : decode cX6_fells 8 = .ok (.ldc 59, 2) := by decide +kernel
theorem dX6_fells_10 : decode cX6_fells 10 = .ok (.ireturn, 1) := by decide +kernel
theorem dX6_fells_11 : decode cX6_fells 11 = .ok (.aload_n 0, 1) := by decide +kernel
theorem dX6_fells_12 : decode cX6_fells 12 = .ok (.getfield 10, 3) := by decide +kernel
theorem dX6_fells_15 : decode cX6_fells 15 = .ok (.getfield 72, 3) := by decide +kernel
theorem dX6_fells_18 : decode cX6_fells 18 = .ok (.iload_n 1, 1) := by decide +kernel
theorem dX6_fells_19 : decode cX6_fells 19 = .ok (.aaload, 1) := by decide +kernel
theorem dX6_fells_20 : decode cX6_fells 20 = .ok (.getfield 76, 3) := by decide +kernel
theorem dX6_fells_23 : decode cX6_fells 23 = .ok (.ifCond .ne 6, 3) := by decide +kernel
theorem dX6_fells_26 : decode cX6_fells 26 = .ok (.ldc 119, 2) := by decide +kernel
theorem dX6_fells_28 : decode cX6_fells 28 = .ok (.ireturn, 1) := by decide +kernel
theorem dX6_fells_29 : decode cX6_fells 29 = .ok (.aload_n 0, 1) := by decide +kernel
theorem dX6_fells_30 : decode cX6_fells 30 = .ok (.getfield 10, 3) := by decide +kernel
theorem dX6_fells_33 : decode cX6_fells 33 = .ok (.getfield 72, 3) := by decide +kernel
theorem dX6_fells_36 : decode cX6_fells 36 = .ok (.iload_n 1, 1) := by decide +kernel
theorem dX6_fells_37 : decode cX6_fells 37 = .ok (.aaload, 1) := by decide +kernel
theorem dX6_fells_38 : decode cX6_fells 38 = .ok (.invokevirtual 120, 3) := by decide +kernel
theorem dX6_fells_41 : decode cX6_fells 41 = .ok (.aload_n 0, 1) := by decide +kernel
theorem dX6_fells_42 : decode cX6_fells 42 = .ok (.getfield 10, 3) := by decide +kernel
theorem dX6_fells_45 : decode cX6_fells 45 = .ok (.invokevirtual 123, 3) := by decide +kernel
theorem dX6_fells_48 : decode cX6_fells 48 = .ok (.ireturn, 1) := by decide +kernel
theorem dX6_raises_0 : decode cX6_raises 0 = .ok (.aload_n 0, 1) := by decide +kernel
theorem dX6_raises_1 : decode cX6_raises 1 = .ok (.iload_n 1, 1) := by decide +kernel
theorem dX6_raises_2 : decode cX6_raises 2 = .ok (.invokevirtual 68, 3) := by decide +kernel
theorem dX6_raises_5 : decode cX6_raises 5 = .ok (.ifCond .ne 6, 3) := by decide +kernel
theorem dX6_raises_8 : decode cX6_raises 8 = .ok (.ldc 59, 2) := by decide +kernel
theorem dX6_raises_10 : decode cX6_raises 10 = .ok (.ireturn, 1) := by decide +kernel
theorem dX6_raises_11 : decode cX6_raises 11 = .ok (.aload_n 0, 1) := by decide +kernel
theorem dX6_raises_12 : decode cX6_raises 12 = .ok (.getfield 10, 3) := by decide +kernel
theorem dX6_raises_15 : decode cX6_raises 15 = .ok (.getfield 72, 3) := by decide +kernel
theorem dX6_raises_18 : decode cX6_raises 18 = .ok (.iload_n 1, 1) := by decide +kernel
theorem dX6_raises_19 : decode cX6_raises 19 = .ok (.aaload, 1) := by decide +kernel
theorem dX6_raises_20 : decode cX6_raises 20 = .ok (.getfield 76, 3) := by decide +kernel
theorem dX6_raises_23 : decode cX6_raises 23 = .ok (.ifCond .eq 6, 3) := by decide +kernel
theorem dX6_raises_26 : decode cX6_raises 26 = .ok (.ldc 119, 2) := by decide +kernel
theorem dX6_raises_28 : decode cX6_raises 28 = .ok (.ireturn, 1) := by decide +kernel
theorem dX6_raises_29 : decode cX6_raises 29 = .ok (.aload_n 0, 1) := by decide +kernel
theorem dX6_raises_30 : decode cX6_raises 30 = .ok (.getfield 10, 3) := by decide +kernel
theorem dX6_raises_33 : decode cX6_raises 33 = .ok (.getfield 72, 3) := by decide +kernel
theorem dX6_raises_36 : decode cX6_raises 36 = .ok (.iload_n 1, 1) := by decide +kernel
theorem dX6_raises_37 : decode cX6_raises 37 = .ok (.aaload, 1) := by decide +kernel
theorem dX6_raises_38 : decode cX6_raises 38 = .ok (.invokevirtual 126, 3) := by decide +kernel
theorem dX6_raises_41 : decode cX6_raises 41 = .ok (.aload_n 0, 1) := by decide +kernel
theorem dX6_raises_42 : decode cX6_raises 42 = .ok (.getfield 10, 3) := by decide +kernel
theorem dX6_raises_45 : decode cX6_raises 45 = .ok (.invokevirtual 123, 3) := by decide +kernel
theorem dX6_raises_48 : decode cX6_raises 48 = .ok (.ireturn, 1) := by decide +kernel
theorem dX6_snow_0 : decode cX6_snow 0 = .ok (.iload_n 1, 1) := by decide +kernel
theorem dX6_snow_1 : decode cX6_snow 1 = .ok (.bipush (-20), 2) := by decide +kernel
theorem dX6_snow_3 : decode cX6_snow 3 = .ok (.if_icmp .lt 9, 3) := by decide +kernel
theorem dX6_snow_6 : decode cX6_snow 6 = .ok (.iload_n 1, 1) := by decide +kernel
theorem dX6_snow_7 : decode cX6_snow 7 = .ok (.bipush 20, 2) := by decide +kernel
theorem dX6_snow_9 : decode cX6_snow 9 = .ok (.if_icmp .le 6, 3) := by decide +kernel
theorem dX6_snow_12 : decode cX6_snow 12 = .ok (.ldc 59, 2) := by decide +kernel
theorem dX6_snow_14 : decode cX6_snow 14 = .ok (.ireturn, 1) := by decide +kernel
theorem dX6_snow_15 : decode cX6_snow 15 = .ok (.aload_n 0, 1) := by decide +kernel
theorem dX6_snow_16 : decode cX6_snow 16 = .ok (.getfield 10, 3) := by decide +kernel
theorem dX6_snow_19 : decode cX6_snow 19 = .ok (.getfield 129, 3) := by decide +kernel
theorem dX6_snow_22 : decode cX6_snow 22 = .ok (.istore_n 2, 1) := by decide +kernel
theorem dX6_snow_23 : decode cX6_snow 23 = .ok (.aload_n 0, 1) := by decide +kernel
theorem dX6_snow_24 : decode cX6_snow 24 = .ok (.getfield 10, 3) := by decide +kernel
theorem dX6_snow_27 : decode cX6_snow 27 = .ok (.iload_n 1, 1) := by decide +kernel
theorem dX6_snow_28 : decode cX6_snow 28 = .ok (.putfield 129, 3) := by decide +kernel
theorem dX6_snow_31 : decode cX6_snow 31 = .ok (.iload_n 2, 1) := by decide +kernel
theorem dX6_snow_32 : decode cX6_snow 32 = .ok (.ireturn, 1) := by decide +kernel
theorem dX6_deal_0 : decode cX6_deal 0 = .ok (.iload_n 1, 1) := by decide +kernel
theorem dX6_deal_1 : decode cX6_deal 1 = .ok (.iconst 1, 1) := by decide +kernel
theorem dX6_deal_2 : decode cX6_deal 2 = .ok (.if_icmp .lt 9, 3) := by decide +kernel
theorem dX6_deal_5 : decode cX6_deal 5 = .ok (.iload_n 1, 1) := by decide +kernel
theorem dX6_deal_6 : decode cX6_deal 6 = .ok (.bipush 9, 2) := by decide +kernel
theorem dX6_deal_8 : decode cX6_deal 8 = .ok (.if_icmp .le 6, 3) := by decide +kernel
theorem dX6_deal_11 : decode cX6_deal 11 = .ok (.ldc 59, 2) := by decide +kernel
theorem dX6_deal_13 : decode cX6_deal 13 = .ok (.ireturn, 1) := by decide +kernel
theorem dX6_deal_14 : decode cX6_deal 14 = .ok (.iload_n 1, 1) := by decide +kernel
theorem dX6_deal_15 : decode cX6_deal 15 = .ok (.bipush 9, 2) := by decide +kernel
theorem dX6_deal_17 : decode cX6_deal 17 = .ok (.aload_n 0, 1) := by decide +kernel
theorem dX6_deal_18 : decode cX6_deal 18 = .ok (.getfield 10, 3) := by decide +kernel
theorem dX6_deal_21 : decode cX6_deal 21 = .ok (.getfield 60, 3) := by decide +kernel
theorem dX6_deal_24 : decode cX6_deal 24 = .ok (.isub, 1) := by decide +kernel
theorem dX6_deal_25 : decode cX6_deal 25 = .ok (.invokestatic 132, 3) := by decide +kernel
theorem dX6_deal_28 : decode cX6_deal 28 = .ok (.istore_n 2, 1) := by decide +kernel
theorem dX6_deal_29 : decode cX6_deal 29 = .ok (.iconst 0, 1) := by decide +kernel
theorem dX6_deal_30 : decode cX6_deal 30 = .ok (.istore_n 3, 1) := by decide +kernel
theorem dX6_deal_31 : decode cX6_deal 31 = .ok (.iload_n 3, 1) := by decide +kernel
theorem dX6_deal_32 : decode cX6_deal 32 = .ok (.iload_n 2, 1) := by decide +kernel
theorem dX6_deal_33 : decode cX6_deal 33 = .ok (.if_icmp .ge 16, 3) := by decide +kernel
theorem dX6_deal_36 : decode cX6_deal 36 = .ok (.aload_n 0, 1) := by decide +kernel
theorem dX6_deal_37 : decode cX6_deal 37 = .ok (.getfield 10, 3) := by decide +kernel
theorem dX6_deal_40 : decode cX6_deal 40 = .ok (.invokevirtual 138, 3) := by decide +kernel
theorem dX6_deal_43 : decode cX6_deal 43 = .ok (.iinc 3 1, 3) := by decide +kernel
theorem dX6_deal_46 : decode cX6_deal 46 = .ok (.goto (-15), 3) := by decide +kernel
theorem dX6_deal_49 : decode cX6_deal 49 = .ok (.iload_n 2, 1) := by decide +kernel
theorem dX6_deal_50 : decode cX6_deal 50 = .ok (.ireturn, 1) := by decide +kernel
theorem dX6_seed_0 : decode cX6_seed 0 = .ok (.aload_n 0, 1) := by decide +kernel
theorem dX6_seed_1 : decode cX6_seed 1 = .ok (.getfield 10, 3) := by decide +kernel
theorem dX6_seed_4 : decode cX6_seed 4 = .ok (.getfield 141, 3) := by decide +kernel
theorem dX6_seed_7 : decode cX6_seed 7 = .ok (.istore_n 2, 1) := by decide +kernel
theorem dX6_seed_8 : decode cX6_seed 8 = .ok (.aload_n 0, 1) := by decide +kernel
theorem dX6_seed_9 : decode cX6_seed 9 = .ok (.getfield 10, 3) := by decide +kernel
theorem dX6_seed_12 : decode cX6_seed 12 = .ok (.iload_n 1, 1) := by decide +kernel
theorem dX6_seed_13 : decode cX6_seed 13 = .ok (.putfield 141, 3) := by decide +kernel
theorem dX6_seed_16 : decode cX6_seed 16 = .ok (.iload_n 2, 1) := by decide +kernel
theorem dX6_seed_17 : decode cX6_seed 17 = .ok (.ireturn, 1) := by decide +kernel
theorem dX6_days_0 : decode cX6_days 0 = .ok (.iload_n 1, 1) := by decide +kernel
theorem dX6_days_1 : decode cX6_days 1 = .ok (.iconst 1, 1) := by decide +kernel
theorem dX6_days_2 : decode cX6_days 2 = .ok (.if_icmp .lt 9, 3) := by decide +kernel
theorem dX6_days_5 : decode cX6_days 5 = .ok (.iload_n 1, 1) := by decide +kernel
theorem dX6_days_6 : decode cX6_days 6 = .ok (.bipush 100, 2) := by decide +kernel
theorem dX6_days_8 : decode cX6_days 8 = .ok (.if_icmp .le 6, 3) := by decide +kernel
theorem dX6_days_11 : decode cX6_days 11 = .ok (.ldc 59, 2) := by decide +kernel
theorem dX6_days_13 : decode cX6_days 13 = .ok (.ireturn, 1) := by decide +kernel
theorem dX6_days_14 : decode cX6_days 14 = .ok (.aload_n 0, 1) := by decide +kernel
theorem dX6_days_15 : decode cX6_days 15 = .ok (.getfield 10, 3) := by decide +kernel
theorem dX6_days_18 : decode cX6_days 18 = .ok (.invokevirtual 123, 3) := by decide +kernel
theorem dX6_days_21 : decode cX6_days 21 = .ok (.istore_n 2, 1) := by decide +kernel
theorem dX6_days_22 : decode cX6_days 22 = .ok (.aload_n 0, 1) := by decide +kernel
theorem dX6_days_23 : decode cX6_days 23 = .ok (.getfield 10, 3) := by decide +kernel
theorem dX6_days_26 : decode cX6_days 26 = .ok (.iload_n 1, 1) := by decide +kernel
theorem dX6_days_27 : decode cX6_days 27 = .ok (.sipush 9999, 3) := by decide +kernel
theorem dX6_days_30 : decode cX6_days 30 = .ok (.aload_n 0, 1) := by decide +kernel
theorem dX6_days_31 : decode cX6_days 31 = .ok (.getfield 10, 3) := by decide +kernel
theorem dX6_days_34 : decode cX6_days 34 = .ok (.getfield 144, 3) := by decide +kernel
theorem dX6_days_37 : decode cX6_days 37 = .ok (.isub, 1) := by decide +kernel
theorem dX6_days_38 : decode cX6_days 38 = .ok (.invokestatic 132, 3) := by decide +kernel
theorem dX6_days_41 : decode cX6_days 41 = .ok (.invokevirtual 147, 3) := by decide +kernel
theorem dX6_days_44 : decode cX6_days 44 = .ok (.iload_n 2, 1) := by decide +kernel
theorem dX6_days_45 : decode cX6_days 45 = .ok (.aload_n 0, 1) := by decide +kernel
theorem dX6_days_46 : decode cX6_days 46 = .ok (.getfield 10, 3) := by decide +kernel
theorem dX6_days_49 : decode cX6_days 49 = .ok (.invokevirtual 123, 3) := by decide +kernel
theorem dX6_days_52 : decode cX6_days 52 = .ok (.isub, 1) := by decide +kernel
theorem dX6_days_53 : decode cX6_days 53 = .ok (.ireturn, 1) := by decide +kernel
theorem dX6_street_0 : decode cX6_street 0 = .ok (.iload_n 1, 1) := by decide +kernel
theorem dX6_street_1 : decode cX6_street 1 = .ok (.tableswitch 75 0 4 #[35, 43, 51, 59, 67], 35) := by decide +kernel
theorem dX6_street_36 : decode cX6_street 36 = .ok (.aload_n 0, 1) := by decide +kernel
theorem dX6_street_37 : decode cX6_street 37 = .ok (.getfield 10, 3) := by decide +kernel
theorem dX6_street_40 : decode cX6_street 40 = .ok (.getfield 151, 3) := by decide +kernel
theorem dX6_street_43 : decode cX6_street 43 = .ok (.ireturn, 1) := by decide +kernel
theorem dX6_street_44 : decode cX6_street 44 = .ok (.aload_n 0, 1) := by decide +kernel
theorem dX6_street_45 : decode cX6_street 45 = .ok (.getfield 10, 3) := by decide +kernel
theorem dX6_street_48 : decode cX6_street 48 = .ok (.invokevirtual 154, 3) := by decide +kernel
theorem dX6_street_51 : decode cX6_street 51 = .ok (.ireturn, 1) := by decide +kernel
theorem dX6_street_52 : decode cX6_street 52 = .ok (.aload_n 0, 1) := by decide +kernel
theorem dX6_street_53 : decode cX6_street 53 = .ok (.getfield 10, 3) := by decide +kernel
theorem dX6_street_56 : decode cX6_street 56 = .ok (.invokevirtual 157, 3) := by decide +kernel
theorem dX6_street_59 : decode cX6_street 59 = .ok (.ireturn, 1) := by decide +kernel
theorem dX6_street_60 : decode cX6_street 60 = .ok (.aload_n 0, 1) := by decide +kernel
theorem dX6_street_61 : decode cX6_street 61 = .ok (.getfield 10, 3) := by decide +kernel
theorem dX6_street_64 : decode cX6_street 64 = .ok (.invokevirtual 160, 3) := by decide +kernel
theorem dX6_street_67 : decode cX6_street 67 = .ok (.ireturn, 1) := by decide +kernel
theorem dX6_street_68 : decode cX6_street 68 = .ok (.aload_n 0, 1) := by decide +kernel
theorem dX6_street_69 : decode cX6_street 69 = .ok (.getfield 10, 3) := by decide +kernel
theorem dX6_street_72 : decode cX6_street 72 = .ok (.invokevirtual 163, 3) := by decide +kernel
theorem dX6_street_75 : decode cX6_street 75 = .ok (.ireturn, 1) := by decide +kernel
theorem dX6_street_76 : decode cX6_street 76 = .ok (.ldc 59, 2) := by decide +kernel
theorem dX6_street_78 : decode cX6_street 78 = .ok (.ireturn, 1) := by decide +kernel
theorem dX6_behind_0 : decode cX6_behind 0 = .ok (.iload_n 1, 1) := by decide +kernel
theorem dX6_behind_1 : decode cX6_behind 1 = .ok (.ifCond .lt 26, 3) := by decide +kernel
theorem dX6_behind_4 : decode cX6_behind 4 = .ok (.iload_n 1, 1) := by decide +kernel
theorem dX6_behind_5 : decode cX6_behind 5 = .ok (.bipush 100, 2) := by decide +kernel
theorem dX6_behind_7 : decode cX6_behind 7 = .ok (.if_icmp .gt 20, 3) := by decide +kernel
theorem dX6_behind_10 : decode cX6_behind 10 = .ok (.iload_n 2, 1) := by decide +kernel
theorem dX6_behind_11 : decode cX6_behind 11 = .ok (.ifCond .lt 16, 3) := by decide +kernel
theorem dX6_behind_14 : decode cX6_behind 14 = .ok (.iload_n 2, 1) := by decide +kernel
theorem dX6_behind_15 : decode cX6_behind 15 = .ok (.iconst 3, 1) := by decide +kernel
theorem dX6_behind_16 : decode cX6_behind 16 = .ok (.aload_n 0, 1) := by decide +kernel
theorem dX6_behind_17 : decode cX6_behind 17 = .ok (.getfield 10, 3) := by decide +kernel
theorem dX6_behind_20 : decode cX6_behind 20 = .ok (.getfield 60, 3) := by decide +kernel
theorem dX6_behind_23 : decode cX6_behind 23 = .ok (.iadd, 1) := by decide +kernel
theorem dX6_behind_24 : decode cX6_behind 24 = .ok (.if_icmp .lt 6, 3) := by decide +kernel
theorem dX6_behind_27 : decode cX6_behind 27 = .ok (.ldc 59, 2) := by decide +kernel
theorem dX6_behind_29 : decode cX6_behind 29 = .ok (.ireturn, 1) := by decide +kernel
theorem dX6_behind_30 : decode cX6_behind 30 = .ok (.aload_n 0, 1) := by decide +kernel
theorem dX6_behind_31 : decode cX6_behind 31 = .ok (.aload_n 0, 1) := by decide +kernel
theorem dX6_behind_32 : decode cX6_behind 32 = .ok (.getfield 10, 3) := by decide +kernel
theorem dX6_behind_35 : decode cX6_behind 35 = .ok (.invokevirtual 166, 3) := by decide +kernel
theorem dX6_behind_38 : decode cX6_behind 38 = .ok (.iload_n 1, 1) := by decide +kernel
theorem dX6_behind_39 : decode cX6_behind 39 = .ok (.invokevirtual 147, 3) := by decide +kernel
theorem dX6_behind_42 : decode cX6_behind 42 = .ok (.iload_n 2, 1) := by decide +kernel
theorem dX6_behind_43 : decode cX6_behind 43 = .ok (.tableswitch 49 0 2 #[25, 33, 41], 25) := by decide +kernel
theorem dX6_behind_68 : decode cX6_behind 68 = .ok (.aload_n 0, 1) := by decide +kernel
theorem dX6_behind_69 : decode cX6_behind 69 = .ok (.getfield 19, 3) := by decide +kernel
theorem dX6_behind_72 : decode cX6_behind 72 = .ok (.invokevirtual 154, 3) := by decide +kernel
theorem dX6_behind_75 : decode cX6_behind 75 = .ok (.ireturn, 1) := by decide +kernel
theorem dX6_behind_76 : decode cX6_behind 76 = .ok (.aload_n 0, 1) := by decide +kernel
theorem dX6_behind_77 : decode cX6_behind 77 = .ok (.getfield 19, 3) := by decide +kernel
theorem dX6_behind_80 : decode cX6_behind 80 = .ok (.invokevirtual 157, 3) := by decide +kernel
theorem dX6_behind_83 : decode cX6_behind 83 = .ok (.ireturn, 1) := by decide +kernel
theorem dX6_behind_84 : decode cX6_behind 84 = .ok (.aload_n 0, 1) := by decide +kernel
theorem dX6_behind_85 : decode cX6_behind 85 = .ok (.getfield 19, 3) := by decide +kernel
theorem dX6_behind_88 : decode cX6_behind 88 = .ok (.getfield 151, 3) := by decide +kernel
theorem dX6_behind_91 : decode cX6_behind 91 = .ok (.ireturn, 1) := by decide +kernel
theorem dX6_behind_92 : decode cX6_behind 92 = .ok (.aload_n 0, 1) := by decide +kernel
theorem dX6_behind_93 : decode cX6_behind 93 = .ok (.getfield 19, 3) := by decide +kernel
theorem dX6_behind_96 : decode cX6_behind 96 = .ok (.getfield 72, 3) := by decide +kernel
theorem dX6_behind_99 : decode cX6_behind 99 = .ok (.iload_n 2, 1) := by decide +kernel
theorem dX6_behind_100 : decode cX6_behind 100 = .ok (.iconst 3, 1) := by decide +kernel
theorem dX6_behind_101 : decode cX6_behind 101 = .ok (.isub, 1) := by decide +kernel
theorem dX6_behind_102 : decode cX6_behind 102 = .ok (.aaload, 1) := by decide +kernel
theorem dX6_behind_103 : decode cX6_behind 103 = .ok (.getfield 170, 3) := by decide +kernel
theorem dX6_behind_106 : decode cX6_behind 106 = .ok (.ireturn, 1) := by decide +kernel
theorem dX6_lasts_0 : decode cX6_lasts 0 = .ok (.aload_n 0, 1) := by decide +kernel
theorem dX6_lasts_1 : decode cX6_lasts 1 = .ok (.aload_n 0, 1) := by decide +kernel
theorem dX6_lasts_2 : decode cX6_lasts 2 = .ok (.getfield 10, 3) := by decide +kernel
theorem dX6_lasts_5 : decode cX6_lasts 5 = .ok (.invokevirtual 166, 3) := by decide +kernel
theorem dX6_lasts_8 : decode cX6_lasts 8 = .ok (.sipush 300, 3) := by decide +kernel
theorem dX6_lasts_11 : decode cX6_lasts 11 = .ok (.invokevirtual 173, 3) := by decide +kernel
theorem dX6_lasts_14 : decode cX6_lasts 14 = .ok (.istore_n 1, 1) := by decide +kernel
theorem dX6_lasts_15 : decode cX6_lasts 15 = .ok (.iload_n 1, 1) := by decide +kernel
theorem dX6_lasts_16 : decode cX6_lasts 16 = .ok (.ifCond .ne 8, 3) := by decide +kernel
theorem dX6_lasts_19 : decode cX6_lasts 19 = .ok (.ldc 176, 2) := by decide +kernel
theorem dX6_lasts_21 : decode cX6_lasts 21 = .ok (.goto 4, 3) := by decide +kernel
theorem dX6_lasts_24 : decode cX6_lasts 24 = .ok (.iload_n 1, 1) := by decide +kernel
theorem dX6_lasts_25 : decode cX6_lasts 25 = .ok (.ireturn, 1) := by decide +kernel
theorem dX6_taken_0 : decode cX6_taken 0 = .ok (.aload_n 0, 1) := by decide +kernel
theorem dX6_taken_1 : decode cX6_taken 1 = .ok (.iload_n 1, 1) := by decide +kernel
theorem dX6_taken_2 : decode cX6_taken 2 = .ok (.invokevirtual 68, 3) := by decide +kernel
theorem dX6_taken_5 : decode cX6_taken 5 = .ok (.ifCond .eq 14, 3) := by decide +kernel
theorem dX6_taken_8 : decode cX6_taken 8 = .ok (.iload_n 2, 1) := by decide +kernel
theorem dX6_taken_9 : decode cX6_taken 9 = .ok (.iconst 1, 1) := by decide +kernel
theorem dX6_taken_10 : decode cX6_taken 10 = .ok (.if_icmp .lt 9, 3) := by decide +kernel
theorem dX6_taken_13 : decode cX6_taken 13 = .ok (.iload_n 2, 1) := by decide +kernel
theorem dX6_taken_14 : decode cX6_taken 14 = .ok (.bipush 60, 2) := by decide +kernel
theorem dX6_taken_16 : decode cX6_taken 16 = .ok (.if_icmp .le 6, 3) := by decide +kernel
theorem dX6_taken_19 : decode cX6_taken 19 = .ok (.ldc 59, 2) := by decide +kernel
theorem dX6_taken_21 : decode cX6_taken 21 = .ok (.ireturn, 1) := by decide +kernel
theorem dX6_taken_22 : decode cX6_taken 22 = .ok (.aload_n 0, 1) := by decide +kernel
theorem dX6_taken_23 : decode cX6_taken 23 = .ok (.getfield 10, 3) := by decide +kernel
theorem dX6_taken_26 : decode cX6_taken 26 = .ok (.getfield 72, 3) := by decide +kernel
theorem dX6_taken_29 : decode cX6_taken 29 = .ok (.iload_n 1, 1) := by decide +kernel
theorem dX6_taken_30 : decode cX6_taken 30 = .ok (.aaload, 1) := by decide +kernel
theorem dX6_taken_31 : decode cX6_taken 31 = .ok (.getfield 76, 3) := by decide +kernel
theorem dX6_taken_34 : decode cX6_taken 34 = .ok (.ifCond .ne 6, 3) := by decide +kernel
theorem dX6_taken_37 : decode cX6_taken 37 = .ok (.ldc 119, 2) := by decide +kernel
theorem dX6_taken_39 : decode cX6_taken 39 = .ok (.ireturn, 1) := by decide +kernel
theorem dX6_taken_40 : decode cX6_taken 40 = .ok (.aload_n 0, 1) := by decide +kernel
theorem dX6_taken_41 : decode cX6_taken 41 = .ok (.aload_n 0, 1) := by decide +kernel
theorem dX6_taken_42 : decode cX6_taken 42 = .ok (.getfield 10, 3) := by decide +kernel
theorem dX6_taken_45 : decode cX6_taken 45 = .ok (.invokevirtual 166, 3) := by decide +kernel
theorem dX6_taken_48 : decode cX6_taken 48 = .ok (.iload_n 2, 1) := by decide +kernel
theorem dX6_taken_49 : decode cX6_taken 49 = .ok (.invokevirtual 147, 3) := by decide +kernel
theorem dX6_taken_52 : decode cX6_taken 52 = .ok (.aload_n 0, 1) := by decide +kernel
theorem dX6_taken_53 : decode cX6_taken 53 = .ok (.getfield 19, 3) := by decide +kernel
theorem dX6_taken_56 : decode cX6_taken 56 = .ok (.invokevirtual 154, 3) := by decide +kernel
theorem dX6_taken_59 : decode cX6_taken 59 = .ok (.istore_n 3, 1) := by decide +kernel
theorem dX6_taken_60 : decode cX6_taken 60 = .ok (.aload_n 0, 1) := by decide +kernel
theorem dX6_taken_61 : decode cX6_taken 61 = .ok (.aload_n 0, 1) := by decide +kernel
theorem dX6_taken_62 : decode cX6_taken 62 = .ok (.getfield 10, 3) := by decide +kernel
theorem dX6_taken_65 : decode cX6_taken 65 = .ok (.invokevirtual 166, 3) := by decide +kernel
theorem dX6_taken_68 : decode cX6_taken 68 = .ok (.getfield 72, 3) := by decide +kernel
theorem dX6_taken_71 : decode cX6_taken 71 = .ok (.iload_n 1, 1) := by decide +kernel
theorem dX6_taken_72 : decode cX6_taken 72 = .ok (.aaload, 1) := by decide +kernel
theorem dX6_taken_73 : decode cX6_taken 73 = .ok (.invokevirtual 120, 3) := by decide +kernel
theorem dX6_taken_76 : decode cX6_taken 76 = .ok (.aload_n 0, 1) := by decide +kernel
theorem dX6_taken_77 : decode cX6_taken 77 = .ok (.getfield 19, 3) := by decide +kernel
theorem dX6_taken_80 : decode cX6_taken 80 = .ok (.iload_n 2, 1) := by decide +kernel
theorem dX6_taken_81 : decode cX6_taken 81 = .ok (.invokevirtual 147, 3) := by decide +kernel
theorem dX6_taken_84 : decode cX6_taken 84 = .ok (.iload_n 3, 1) := by decide +kernel
theorem dX6_taken_85 : decode cX6_taken 85 = .ok (.aload_n 0, 1) := by decide +kernel
theorem dX6_taken_86 : decode cX6_taken 86 = .ok (.getfield 19, 3) := by decide +kernel
theorem dX6_taken_89 : decode cX6_taken 89 = .ok (.invokevirtual 154, 3) := by decide +kernel
theorem dX6_taken_92 : decode cX6_taken 92 = .ok (.iconst (-1), 1) := by decide +kernel
theorem dX6_taken_93 : decode cX6_taken 93 = .ok (.ixor, 1) := by decide +kernel
theorem dX6_taken_94 : decode cX6_taken 94 = .ok (.iand, 1) := by decide +kernel
theorem dX6_taken_95 : decode cX6_taken 95 = .ok (.iconst 1, 1) := by decide +kernel
theorem dX6_taken_96 : decode cX6_taken 96 = .ok (.iload_n 1, 1) := by decide +kernel
theorem dX6_taken_97 : decode cX6_taken 97 = .ok (.ishl, 1) := by decide +kernel
theorem dX6_taken_98 : decode cX6_taken 98 = .ok (.iconst (-1), 1) := by decide +kernel
theorem dX6_taken_99 : decode cX6_taken 99 = .ok (.ixor, 1) := by decide +kernel
theorem dX6_taken_100 : decode cX6_taken 100 = .ok (.iand, 1) := by decide +kernel
theorem dX6_taken_101 : decode cX6_taken 101 = .ok (.ireturn, 1) := by decide +kernel
theorem dX6_propped_0 : decode cX6_propped 0 = .ok (.iload_n 1, 1) := by decide +kernel
theorem dX6_propped_1 : decode cX6_propped 1 = .ok (.iconst 1, 1) := by decide +kernel
theorem dX6_propped_2 : decode cX6_propped 2 = .ok (.if_icmp .lt 9, 3) := by decide +kernel
theorem dX6_propped_5 : decode cX6_propped 5 = .ok (.iload_n 1, 1) := by decide +kernel
theorem dX6_propped_6 : decode cX6_propped 6 = .ok (.bipush 40, 2) := by decide +kernel
theorem dX6_propped_8 : decode cX6_propped 8 = .ok (.if_icmp .le 6, 3) := by decide +kernel
theorem dX6_propped_11 : decode cX6_propped 11 = .ok (.ldc 59, 2) := by decide +kernel
theorem dX6_propped_13 : decode cX6_propped 13 = .ok (.ireturn, 1) := by decide +kernel
theorem dX6_propped_14 : decode cX6_propped 14 = .ok (.aload_n 0, 1) := by decide +kernel
theorem dX6_propped_15 : decode cX6_propped 15 = .ok (.aload_n 0, 1) := by decide +kernel
theorem dX6_propped_16 : decode cX6_propped 16 = .ok (.getfield 10, 3) := by decide +kernel
theorem dX6_propped_19 : decode cX6_propped 19 = .ok (.invokevirtual 166, 3) := by decide +kernel
theorem dX6_propped_22 : decode cX6_propped 22 = .ok (.iload_n 1, 1) := by decide +kernel
theorem dX6_propped_23 : decode cX6_propped 23 = .ok (.invokevirtual 173, 3) := by decide +kernel
theorem dX6_propped_26 : decode cX6_propped 26 = .ok (.ifCond .ne 5, 3) := by decide +kernel
theorem dX6_propped_29 : decode cX6_propped 29 = .ok (.iconst 0, 1) := by decide +kernel
theorem dX6_propped_30 : decode cX6_propped 30 = .ok (.ireturn, 1) := by decide +kernel
theorem dX6_propped_31 : decode cX6_propped 31 = .ok (.aload_n 0, 1) := by decide +kernel
theorem dX6_propped_32 : decode cX6_propped 32 = .ok (.getfield 19, 3) := by decide +kernel
theorem dX6_propped_35 : decode cX6_propped 35 = .ok (.aload_n 0, 1) := by decide +kernel
theorem dX6_propped_36 : decode cX6_propped 36 = .ok (.getfield 10, 3) := by decide +kernel
theorem dX6_propped_39 : decode cX6_propped 39 = .ok (.invokevirtual 177, 3) := by decide +kernel
theorem dX6_propped_42 : decode cX6_propped 42 = .ok (.istore_n 2, 1) := by decide +kernel
theorem dX6_propped_43 : decode cX6_propped 43 = .ok (.iconst 1, 1) := by decide +kernel
theorem dX6_propped_44 : decode cX6_propped 44 = .ok (.istore_n 3, 1) := by decide +kernel
theorem dX6_propped_45 : decode cX6_propped 45 = .ok (.iload_n 3, 1) := by decide +kernel
theorem dX6_propped_46 : decode cX6_propped 46 = .ok (.getstatic 181, 3) := by decide +kernel
theorem dX6_propped_49 : decode cX6_propped 49 = .ok (.iconst 5, 1) := by decide +kernel
theorem dX6_propped_50 : decode cX6_propped 50 = .ok (.iaload, 1) := by decide +kernel
theorem dX6_propped_51 : decode cX6_propped 51 = .ok (.if_icmp .gt 59, 3) := by decide +kernel
theorem dX6_propped_54 : decode cX6_propped 54 = .ok (.iconst 0, 1) := by decide +kernel
theorem dX6_propped_55 : decode cX6_propped 55 = .ok (.istore 4, 2) := by decide +kernel
theorem dX6_propped_57 : decode cX6_propped 57 = .ok (.iload 4, 2) := by decide +kernel
theorem dX6_propped_59 : decode cX6_propped 59 = .ok (.aload_n 0, 1) := by decide +kernel
theorem dX6_propped_60 : decode cX6_propped 60 = .ok (.getfield 10, 3) := by decide +kernel
theorem dX6_propped_63 : decode cX6_propped 63 = .ok (.getfield 60, 3) := by decide +kernel
theorem dX6_propped_66 : decode cX6_propped 66 = .ok (.if_icmp .ge 38, 3) := by decide +kernel
theorem dX6_propped_69 : decode cX6_propped 69 = .ok (.iload_n 2, 1) := by decide +kernel
theorem dX6_propped_70 : decode cX6_propped 70 = .ok (.iload 4, 2) := by decide +kernel
theorem dX6_propped_72 : decode cX6_propped 72 = .ok (.ishr, 1) := by decide +kernel
theorem dX6_propped_73 : decode cX6_propped 73 = .ok (.iconst 1, 1) := by decide +kernel
theorem dX6_propped_74 : decode cX6_propped 74 = .ok (.iand, 1) := by decide +kernel
theorem dX6_propped_75 : decode cX6_propped 75 = .ok (.iconst 1, 1) := by decide +kernel
theorem dX6_propped_76 : decode cX6_propped 76 = .ok (.if_icmp .ne 22, 3) := by decide +kernel
theorem dX6_propped_79 : decode cX6_propped 79 = .ok (.aload_n 0, 1) := by decide +kernel
theorem dX6_propped_80 : decode cX6_propped 80 = .ok (.iload 4, 2) := by decide +kernel
theorem dX6_propped_82 : decode cX6_propped 82 = .ok (.iload_n 3, 1) := by decide +kernel
theorem dX6_propped_83 : decode cX6_propped 83 = .ok (.iload_n 1, 1) := by decide +kernel
theorem dX6_propped_84 : decode cX6_propped 84 = .ok (.invokevirtual 184, 3) := by decide +kernel
theorem dX6_propped_87 : decode cX6_propped 87 = .ok (.ifCond .eq 11, 3) := by decide +kernel
theorem dX6_propped_90 : decode cX6_propped 90 = .ok (.bipush 10, 2) := by decide +kernel
theorem dX6_propped_92 : decode cX6_propped 92 = .ok (.iload 4, 2) := by decide +kernel
theorem dX6_propped_94 : decode cX6_propped 94 = .ok (.imul, 1) := by decide +kernel
theorem dX6_propped_95 : decode cX6_propped 95 = .ok (.iload_n 3, 1) := by decide +kernel
theorem dX6_propped_96 : decode cX6_propped 96 = .ok (.iadd, 1) := by decide +kernel
theorem dX6_propped_97 : decode cX6_propped 97 = .ok (.ireturn, 1) := by decide +kernel
theorem dX6_propped_98 : decode cX6_propped 98 = .ok (.iinc 4 1, 3) := by decide +kernel
theorem dX6_propped_101 : decode cX6_propped 101 = .ok (.goto (-44), 3) := by decide +kernel
theorem dX6_propped_104 : decode cX6_propped 104 = .ok (.iinc 3 1, 3) := by decide +kernel
theorem dX6_propped_107 : decode cX6_propped 107 = .ok (.goto (-62), 3) := by decide +kernel
theorem dX6_propped_110 : decode cX6_propped 110 = .ok (.ldc 176, 2) := by decide +kernel
theorem dX6_propped_112 : decode cX6_propped 112 = .ok (.ireturn, 1) := by decide +kernel
theorem dX6_wall_0 : decode cX6_wall 0 = .ok (.iload_n 1, 1) := by decide +kernel
theorem dX6_wall_1 : decode cX6_wall 1 = .ok (.iconst 1, 1) := by decide +kernel
theorem dX6_wall_2 : decode cX6_wall 2 = .ok (.if_icmp .lt 18, 3) := by decide +kernel
theorem dX6_wall_5 : decode cX6_wall 5 = .ok (.iload_n 1, 1) := by decide +kernel
theorem dX6_wall_6 : decode cX6_wall 6 = .ok (.bipush 60, 2) := by decide +kernel
theorem dX6_wall_8 : decode cX6_wall 8 = .ok (.if_icmp .gt 12, 3) := by decide +kernel
theorem dX6_wall_11 : decode cX6_wall 11 = .ok (.iload_n 2, 1) := by decide +kernel
theorem dX6_wall_12 : decode cX6_wall 12 = .ok (.ifCond .lt 8, 3) := by decide +kernel
theorem dX6_wall_15 : decode cX6_wall 15 = .ok (.iload_n 2, 1) := by decide +kernel
theorem dX6_wall_16 : decode cX6_wall 16 = .ok (.iconst 1, 1) := by decide +kernel
theorem dX6_wall_17 : decode cX6_wall 17 = .ok (.if_icmp .le 6, 3) := by decide +kernel
theorem dX6_wall_20 : decode cX6_wall 20 = .ok (.ldc 59, 2) := by decide +kernel
theorem dX6_wall_22 : decode cX6_wall 22 = .ok (.ireturn, 1) := by decide +kernel
theorem dX6_wall_23 : decode cX6_wall 23 = .ok (.ldc 176, 2) := by decide +kernel
theorem dX6_wall_25 : decode cX6_wall 25 = .ok (.istore_n 3, 1) := by decide +kernel
theorem dX6_wall_26 : decode cX6_wall 26 = .ok (.iconst (-1), 1) := by decide +kernel
theorem dX6_wall_27 : decode cX6_wall 27 = .ok (.istore 4, 2) := by decide +kernel
theorem dX6_wall_29 : decode cX6_wall 29 = .ok (.iconst 0, 1) := by decide +kernel
theorem dX6_wall_30 : decode cX6_wall 30 = .ok (.istore 5, 2) := by decide +kernel
theorem dX6_wall_32 : decode cX6_wall 32 = .ok (.iload 5, 2) := by decide +kernel
theorem dX6_wall_34 : decode cX6_wall 34 = .ok (.aload_n 0, 1) := by decide +kernel
theorem dX6_wall_35 : decode cX6_wall 35 = .ok (.getfield 10, 3) := by decide +kernel
theorem dX6_wall_38 : decode cX6_wall 38 = .ok (.getfield 60, 3) := by decide +kernel
theorem dX6_wall_41 : decode cX6_wall 41 = .ok (.if_icmp .ge 47, 3) := by decide +kernel
theorem dX6_wall_44 : decode cX6_wall 44 = .ok (.aload_n 0, 1) := by decide +kernel
theorem dX6_wall_45 : decode cX6_wall 45 = .ok (.iload 5, 2) := by decide +kernel
theorem dX6_wall_47 : decode cX6_wall 47 = .ok (.iload_n 1, 1) := by decide +kernel
theorem dX6_wall_48 : decode cX6_wall 48 = .ok (.invokevirtual 188, 3) := by decide +kernel
theorem dX6_wall_51 : decode cX6_wall 51 = .ok (.aload_n 0, 1) := by decide +kernel
theorem dX6_wall_52 : decode cX6_wall 52 = .ok (.getfield 19, 3) := by decide +kernel
theorem dX6_wall_55 : decode cX6_wall 55 = .ok (.getfield 60, 3) := by decide +kernel
theorem dX6_wall_58 : decode cX6_wall 58 = .ok (.aload_n 0, 1) := by decide +kernel
theorem dX6_wall_59 : decode cX6_wall 59 = .ok (.getfield 19, 3) := by decide +kernel
theorem dX6_wall_62 : decode cX6_wall 62 = .ok (.invokevirtual 123, 3) := by decide +kernel
theorem dX6_wall_65 : decode cX6_wall 65 = .ok (.isub, 1) := by decide +kernel
theorem dX6_wall_66 : decode cX6_wall 66 = .ok (.istore 6, 2) := by decide +kernel
theorem dX6_wall_68 : decode cX6_wall 68 = .ok (.iload 6, 2) := by decide +kernel
theorem dX6_wall_70 : decode cX6_wall 70 = .ok (.iload 4, 2) := by decide +kernel
theorem dX6_wall_72 : decode cX6_wall 72 = .ok (.if_icmp .le 10, 3) := by decide +kernel
theorem dX6_wall_75 : decode cX6_wall 75 = .ok (.iload 5, 2) := by decide +kernel
theorem dX6_wall_77 : decode cX6_wall 77 = .ok (.istore_n 3, 1) := by decide +kernel
theorem dX6_wall_78 : decode cX6_wall 78 = .ok (.iload 6, 2) := by decide +kernel
theorem dX6_wall_80 : decode cX6_wall 80 = .ok (.istore 4, 2) := by decide +kernel
theorem dX6_wall_82 : decode cX6_wall 82 = .ok (.iinc 5 1, 3) := by decide +kernel
theorem dX6_wall_85 : decode cX6_wall 85 = .ok (.goto (-53), 3) := by decide +kernel
theorem dX6_wall_88 : decode cX6_wall 88 = .ok (.iload_n 2, 1) := by decide +kernel
theorem dX6_wall_89 : decode cX6_wall 89 = .ok (.ifCond .eq 9, 3) := by decide +kernel
theorem dX6_wall_92 : decode cX6_wall 92 = .ok (.iload_n 3, 1) := by decide +kernel
theorem dX6_wall_93 : decode cX6_wall 93 = .ok (.ldc 176, 2) := by decide +kernel
theorem dX6_wall_95 : decode cX6_wall 95 = .ok (.if_icmp .ne 7, 3) := by decide +kernel
theorem dX6_wall_98 : decode cX6_wall 98 = .ok (.iload_n 3, 1) := by decide +kernel
theorem dX6_wall_99 : decode cX6_wall 99 = .ok (.goto 5, 3) := by decide +kernel
theorem dX6_wall_102 : decode cX6_wall 102 = .ok (.iload 4, 2) := by decide +kernel
theorem dX6_wall_104 : decode cX6_wall 104 = .ok (.ireturn, 1) := by decide +kernel
theorem dX6_snows_0 : decode cX6_snows 0 = .ok (.iload_n 1, 1) := by decide +kernel
theorem dX6_snows_1 : decode cX6_snows 1 = .ok (.iconst 1, 1) := by decide +kernel
theorem dX6_snows_2 : decode cX6_snows 2 = .ok (.if_icmp .lt 9, 3) := by decide +kernel
theorem dX6_snows_5 : decode cX6_snows 5 = .ok (.iload_n 1, 1) := by decide +kernel
theorem dX6_snows_6 : decode cX6_snows 6 = .ok (.bipush 60, 2) := by decide +kernel
theorem dX6_snows_8 : decode cX6_snows 8 = .ok (.if_icmp .le 6, 3) := by decide +kernel
theorem dX6_snows_11 : decode cX6_snows 11 = .ok (.ldc 59, 2) := by decide +kernel
theorem dX6_snows_13 : decode cX6_snows 13 = .ok (.ireturn, 1) := by decide +kernel
theorem dX6_snows_14 : decode cX6_snows 14 = .ok (.bipush 20, 2) := by decide +kernel
theorem dX6_snows_16 : decode cX6_snows 16 = .ok (.istore_n 2, 1) := by decide +kernel
theorem dX6_snows_17 : decode cX6_snows 17 = .ok (.iload_n 2, 1) := by decide +kernel
theorem dX6_snows_18 : decode cX6_snows 18 = .ok (.ifCond .lt 34, 3) := by decide +kernel
theorem dX6_snows_21 : decode cX6_snows 21 = .ok (.aload_n 0, 1) := by decide +kernel
theorem dX6_snows_22 : decode cX6_snows 22 = .ok (.aload_n 0, 1) := by decide +kernel
theorem dX6_snows_23 : decode cX6_snows 23 = .ok (.getfield 10, 3) := by decide +kernel
theorem dX6_snows_26 : decode cX6_snows 26 = .ok (.invokevirtual 166, 3) := by decide +kernel
theorem dX6_snows_29 : decode cX6_snows 29 = .ok (.iload_n 2, 1) := by decide +kernel
theorem dX6_snows_30 : decode cX6_snows 30 = .ok (.putfield 129, 3) := by decide +kernel
theorem dX6_snows_33 : decode cX6_snows 33 = .ok (.aload_n 0, 1) := by decide +kernel
theorem dX6_snows_34 : decode cX6_snows 34 = .ok (.getfield 19, 3) := by decide +kernel
theorem dX6_snows_37 : decode cX6_snows 37 = .ok (.iload_n 1, 1) := by decide +kernel
theorem dX6_snows_38 : decode cX6_snows 38 = .ok (.invokevirtual 173, 3) := by decide +kernel
theorem dX6_snows_41 : decode cX6_snows 41 = .ok (.ifCond .ne 5, 3) := by decide +kernel
theorem dX6_snows_44 : decode cX6_snows 44 = .ok (.iload_n 2, 1) := by decide +kernel
theorem dX6_snows_45 : decode cX6_snows 45 = .ok (.ireturn, 1) := by decide +kernel
theorem dX6_snows_46 : decode cX6_snows 46 = .ok (.iinc 2 (-1), 3) := by decide +kernel
theorem dX6_snows_49 : decode cX6_snows 49 = .ok (.goto (-32), 3) := by decide +kernel
theorem dX6_snows_52 : decode cX6_snows 52 = .ok (.ldc 176, 2) := by decide +kernel
theorem dX6_snows_54 : decode cX6_snows 54 = .ok (.ireturn, 1) := by decide +kernel
theorem dX6_began_0 : decode cX6_began 0 = .ok (.iload_n 1, 1) := by decide +kernel
theorem dX6_began_1 : decode cX6_began 1 = .ok (.invokestatic 191, 3) := by decide +kernel
theorem dX6_began_4 : decode cX6_began 4 = .ok (.ifCond .eq 22, 3) := by decide +kernel
theorem dX6_began_7 : decode cX6_began 7 = .ok (.iload_n 2, 1) := by decide +kernel
theorem dX6_began_8 : decode cX6_began 8 = .ok (.ifCond .lt 18, 3) := by decide +kernel
theorem dX6_began_11 : decode cX6_began 11 = .ok (.iload_n 2, 1) := by decide +kernel
theorem dX6_began_12 : decode cX6_began 12 = .ok (.bipush 60, 2) := by decide +kernel
theorem dX6_began_14 : decode cX6_began 14 = .ok (.if_icmp .gt 12, 3) := by decide +kernel
theorem dX6_began_17 : decode cX6_began 17 = .ok (.iload_n 3, 1) := by decide +kernel
theorem dX6_began_18 : decode cX6_began 18 = .ok (.ifCond .lt 8, 3) := by decide +kernel
theorem dX6_began_21 : decode cX6_began 21 = .ok (.iload_n 3, 1) := by decide +kernel
theorem dX6_began_22 : decode cX6_began 22 = .ok (.iconst 1, 1) := by decide +kernel
theorem dX6_began_23 : decode cX6_began 23 = .ok (.if_icmp .le 6, 3) := by decide +kernel
theorem dX6_began_26 : decode cX6_began 26 = .ok (.ldc 59, 2) := by decide +kernel
theorem dX6_began_28 : decode cX6_began 28 = .ok (.ireturn, 1) := by decide +kernel
theorem dX6_began_29 : decode cX6_began 29 = .ok (.aload_n 0, 1) := by decide +kernel
theorem dX6_began_30 : decode cX6_began 30 = .ok (.getfield 31, 3) := by decide +kernel
theorem dX6_began_33 : decode cX6_began 33 = .ok (.iload_n 1, 1) := by decide +kernel
theorem dX6_began_34 : decode cX6_began 34 = .ok (.aaload, 1) := by decide +kernel
theorem dX6_began_35 : decode cX6_began 35 = .ok (.getfield 194, 3) := by decide +kernel
theorem dX6_began_38 : decode cX6_began 38 = .ok (.iconst (-1), 1) := by decide +kernel
theorem dX6_began_39 : decode cX6_began 39 = .ok (.if_icmp .ne 6, 3) := by decide +kernel
theorem dX6_began_42 : decode cX6_began 42 = .ok (.ldc 197, 2) := by decide +kernel
theorem dX6_began_44 : decode cX6_began 44 = .ok (.ireturn, 1) := by decide +kernel
theorem dX6_began_45 : decode cX6_began 45 = .ok (.ldc 176, 2) := by decide +kernel
theorem dX6_began_47 : decode cX6_began 47 = .ok (.istore 4, 2) := by decide +kernel
theorem dX6_began_49 : decode cX6_began 49 = .ok (.iconst 0, 1) := by decide +kernel
theorem dX6_began_50 : decode cX6_began 50 = .ok (.istore 5, 2) := by decide +kernel
theorem dX6_began_52 : decode cX6_began 52 = .ok (.iconst 0, 1) := by decide +kernel
theorem dX6_began_53 : decode cX6_began 53 = .ok (.istore 6, 2) := by decide +kernel
theorem dX6_began_55 : decode cX6_began 55 = .ok (.iload 6, 2) := by decide +kernel
theorem dX6_began_57 : decode cX6_began 57 = .ok (.aload_n 0, 1) := by decide +kernel
theorem dX6_began_58 : decode cX6_began 58 = .ok (.getfield 10, 3) := by decide +kernel
theorem dX6_began_61 : decode cX6_began 61 = .ok (.getfield 60, 3) := by decide +kernel
theorem dX6_began_64 : decode cX6_began 64 = .ok (.if_icmp .ge 53, 3) := by decide +kernel
theorem dX6_began_67 : decode cX6_began 67 = .ok (.aload_n 0, 1) := by decide +kernel
theorem dX6_began_68 : decode cX6_began 68 = .ok (.iload 6, 2) := by decide +kernel
theorem dX6_began_70 : decode cX6_began 70 = .ok (.iload_n 2, 1) := by decide +kernel
theorem dX6_began_71 : decode cX6_began 71 = .ok (.invokevirtual 188, 3) := by decide +kernel
theorem dX6_began_74 : decode cX6_began 74 = .ok (.aload_n 0, 1) := by decide +kernel
theorem dX6_began_75 : decode cX6_began 75 = .ok (.getfield 19, 3) := by decide +kernel
theorem dX6_began_78 : decode cX6_began 78 = .ok (.aload_n 0, 1) := by decide +kernel
theorem dX6_began_79 : decode cX6_began 79 = .ok (.getfield 31, 3) := by decide +kernel
theorem dX6_began_82 : decode cX6_began 82 = .ok (.iload_n 1, 1) := by decide +kernel
theorem dX6_began_83 : decode cX6_began 83 = .ok (.aaload, 1) := by decide +kernel
theorem dX6_began_84 : decode cX6_began 84 = .ok (.invokevirtual 198, 3) := by decide +kernel
theorem dX6_began_87 : decode cX6_began 87 = .ok (.istore 7, 2) := by decide +kernel
theorem dX6_began_89 : decode cX6_began 89 = .ok (.iload 4, 2) := by decide +kernel
theorem dX6_began_91 : decode cX6_began 91 = .ok (.ldc 176, 2) := by decide +kernel
theorem dX6_began_93 : decode cX6_began 93 = .ok (.if_icmp .eq 10, 3) := by decide +kernel
theorem dX6_began_96 : decode cX6_began 96 = .ok (.iload 7, 2) := by decide +kernel
theorem dX6_began_98 : decode cX6_began 98 = .ok (.iload 5, 2) := by decide +kernel
theorem dX6_began_100 : decode cX6_began 100 = .ok (.if_icmp .ge 11, 3) := by decide +kernel
theorem dX6_began_103 : decode cX6_began 103 = .ok (.iload 6, 2) := by decide +kernel
theorem dX6_began_105 : decode cX6_began 105 = .ok (.istore 4, 2) := by decide +kernel
theorem dX6_began_107 : decode cX6_began 107 = .ok (.iload 7, 2) := by decide +kernel
theorem dX6_began_109 : decode cX6_began 109 = .ok (.istore 5, 2) := by decide +kernel
theorem dX6_began_111 : decode cX6_began 111 = .ok (.iinc 6 1, 3) := by decide +kernel
theorem dX6_began_114 : decode cX6_began 114 = .ok (.goto (-59), 3) := by decide +kernel
theorem dX6_began_117 : decode cX6_began 117 = .ok (.iload_n 3, 1) := by decide +kernel
theorem dX6_began_118 : decode cX6_began 118 = .ok (.ifCond .eq 10, 3) := by decide +kernel
theorem dX6_began_121 : decode cX6_began 121 = .ok (.iload 4, 2) := by decide +kernel
theorem dX6_began_123 : decode cX6_began 123 = .ok (.ldc 176, 2) := by decide +kernel
theorem dX6_began_125 : decode cX6_began 125 = .ok (.if_icmp .ne 8, 3) := by decide +kernel
theorem dX6_began_128 : decode cX6_began 128 = .ok (.iload 4, 2) := by decide +kernel
theorem dX6_began_130 : decode cX6_began 130 = .ok (.goto 5, 3) := by decide +kernel
theorem dX6_began_133 : decode cX6_began 133 = .ok (.iload 5, 2) := by decide +kernel
theorem dX6_began_135 : decode cX6_began 135 = .ok (.ireturn, 1) := by decide +kernel
theorem dX6_fee_0 : decode cX6_fee 0 = .ok (.aload_n 0, 1) := by decide +kernel
theorem dX6_fee_1 : decode cX6_fee 1 = .ok (.getfield 10, 3) := by decide +kernel
theorem dX6_fee_4 : decode cX6_fee 4 = .ok (.getfield 202, 3) := by decide +kernel
theorem dX6_fee_7 : decode cX6_fee 7 = .ok (.iconst 1, 1) := by decide +kernel
theorem dX6_fee_8 : decode cX6_fee 8 = .ok (.aaload, 1) := by decide +kernel
theorem dX6_fee_9 : decode cX6_fee 9 = .ok (.astore_n 1, 1) := by decide +kernel
theorem dX6_fee_10 : decode cX6_fee 10 = .ok (.aload_n 1, 1) := by decide +kernel
theorem dX6_fee_11 : decode cX6_fee 11 = .ok (.ifnonnull 13, 3) := by decide +kernel
theorem dX6_fee_14 : decode cX6_fee 14 = .ok (.aload_n 0, 1) := by decide +kernel
theorem dX6_fee_15 : decode cX6_fee 15 = .ok (.getfield 10, 3) := by decide +kernel
theorem dX6_fee_18 : decode cX6_fee 18 = .ok (.getfield 151, 3) := by decide +kernel
theorem dX6_fee_21 : decode cX6_fee 21 = .ok (.goto 22, 3) := by decide +kernel
theorem dX6_fee_24 : decode cX6_fee 24 = .ok (.aload_n 1, 1) := by decide +kernel
theorem dX6_fee_25 : decode cX6_fee 25 = .ok (.aload_n 0, 1) := by decide +kernel
theorem dX6_fee_26 : decode cX6_fee 26 = .ok (.getfield 10, 3) := by decide +kernel
theorem dX6_fee_29 : decode cX6_fee 29 = .ok (.getfield 151, 3) := by decide +kernel
theorem dX6_fee_32 : decode cX6_fee 32 = .ok (.aload_n 0, 1) := by decide +kernel
theorem dX6_fee_33 : decode cX6_fee 33 = .ok (.getfield 10, 3) := by decide +kernel
theorem dX6_fee_36 : decode cX6_fee 36 = .ok (.getfield 144, 3) := by decide +kernel
theorem dX6_fee_39 : decode cX6_fee 39 = .ok (.iconst 0, 1) := by decide +kernel
theorem dX6_fee_40 : decode cX6_fee 40 = .ok (.invokevirtual 206, 3) := by decide +kernel
theorem dX6_fee_43 : decode cX6_fee 43 = .ok (.ireturn, 1) := by decide +kernel
theorem dX6_fine_0 : decode cX6_fine 0 = .ok (.aload_n 0, 1) := by decide +kernel
theorem dX6_fine_1 : decode cX6_fine 1 = .ok (.iload_n 1, 1) := by decide +kernel
theorem dX6_fine_2 : decode cX6_fine 2 = .ok (.invokevirtual 68, 3) := by decide +kernel
theorem dX6_fine_5 : decode cX6_fine 5 = .ok (.ifCond .ne 6, 3) := by decide +kernel
theorem dX6_fine_8 : decode cX6_fine 8 = .ok (.ldc 59, 2) := by decide +kernel
theorem dX6_fine_10 : decode cX6_fine 10 = .ok (.ireturn, 1) := by decide +kernel
theorem dX6_fine_11 : decode cX6_fine 11 = .ok (.aload_n 0, 1) := by decide +kernel
theorem dX6_fine_12 : decode cX6_fine 12 = .ok (.getfield 10, 3) := by decide +kernel
theorem dX6_fine_15 : decode cX6_fine 15 = .ok (.getfield 72, 3) := by decide +kernel
theorem dX6_fine_18 : decode cX6_fine 18 = .ok (.iload_n 1, 1) := by decide +kernel
theorem dX6_fine_19 : decode cX6_fine 19 = .ok (.aaload, 1) := by decide +kernel
theorem dX6_fine_20 : decode cX6_fine 20 = .ok (.astore_n 2, 1) := by decide +kernel
theorem dX6_fine_21 : decode cX6_fine 21 = .ok (.aload_n 0, 1) := by decide +kernel
theorem dX6_fine_22 : decode cX6_fine 22 = .ok (.getfield 10, 3) := by decide +kernel
theorem dX6_fine_25 : decode cX6_fine 25 = .ok (.getfield 202, 3) := by decide +kernel
theorem dX6_fine_28 : decode cX6_fine 28 = .ok (.iconst 2, 1) := by decide +kernel
theorem dX6_fine_29 : decode cX6_fine 29 = .ok (.aaload, 1) := by decide +kernel
theorem dX6_fine_30 : decode cX6_fine 30 = .ok (.astore_n 3, 1) := by decide +kernel
theorem dX6_fine_31 : decode cX6_fine 31 = .ok (.aload_n 3, 1) := by decide +kernel
theorem dX6_fine_32 : decode cX6_fine 32 = .ok (.ifnonnull 10, 3) := by decide +kernel
theorem dX6_fine_35 : decode cX6_fine 35 = .ok (.aload_n 2, 1) := by decide +kernel
theorem dX6_fine_36 : decode cX6_fine 36 = .ok (.getfield 212, 3) := by decide +kernel
theorem dX6_fine_39 : decode cX6_fine 39 = .ok (.goto 16, 3) := by decide +kernel
theorem dX6_fine_42 : decode cX6_fine 42 = .ok (.aload_n 3, 1) := by decide +kernel
theorem dX6_fine_43 : decode cX6_fine 43 = .ok (.aload_n 2, 1) := by decide +kernel
theorem dX6_fine_44 : decode cX6_fine 44 = .ok (.getfield 212, 3) := by decide +kernel
theorem dX6_fine_47 : decode cX6_fine 47 = .ok (.aload_n 2, 1) := by decide +kernel
theorem dX6_fine_48 : decode cX6_fine 48 = .ok (.getfield 215, 3) := by decide +kernel
theorem dX6_fine_51 : decode cX6_fine 51 = .ok (.iconst 0, 1) := by decide +kernel
theorem dX6_fine_52 : decode cX6_fine 52 = .ok (.invokevirtual 206, 3) := by decide +kernel
theorem dX6_fine_55 : decode cX6_fine 55 = .ok (.ireturn, 1) := by decide +kernel
theorem dX6_feed_0 : decode cX6_feed 0 = .ok (.aload_n 0, 1) := by decide +kernel
theorem dX6_feed_1 : decode cX6_feed 1 = .ok (.getfield 25, 3) := by decide +kernel
theorem dX6_feed_4 : decode cX6_feed 4 = .ok (.getfield 218, 3) := by decide +kernel
theorem dX6_feed_7 : decode cX6_feed 7 = .ok (.bipush 12, 2) := by decide +kernel
theorem dX6_feed_9 : decode cX6_feed 9 = .ok (.iadd, 1) := by decide +kernel
theorem dX6_feed_10 : decode cX6_feed 10 = .ok (.bipush 96, 2) := by decide +kernel
theorem dX6_feed_12 : decode cX6_feed 12 = .ok (.if_icmp .le 6, 3) := by decide +kernel
theorem dX6_feed_15 : decode cX6_feed 15 = .ok (.ldc 63, 2) := by decide +kernel
theorem dX6_feed_17 : decode cX6_feed 17 = .ok (.ireturn, 1) := by decide +kernel
theorem dX6_feed_18 : decode cX6_feed 18 = .ok (.aload_n 0, 1) := by decide +kernel
theorem dX6_feed_19 : decode cX6_feed 19 = .ok (.getfield 25, 3) := by decide +kernel
theorem dX6_feed_22 : decode cX6_feed 22 = .ok (.iload_n 1, 1) := by decide +kernel
theorem dX6_feed_23 : decode cX6_feed 23 = .ok (.invokevirtual 219, 3) := by decide +kernel
theorem dX6_feed_26 : decode cX6_feed 26 = .ok (.aload_n 0, 1) := by decide +kernel
theorem dX6_feed_27 : decode cX6_feed 27 = .ok (.getfield 25, 3) := by decide +kernel
theorem dX6_feed_30 : decode cX6_feed 30 = .ok (.iload_n 2, 1) := by decide +kernel
theorem dX6_feed_31 : decode cX6_feed 31 = .ok (.invokevirtual 219, 3) := by decide +kernel
theorem dX6_feed_34 : decode cX6_feed 34 = .ok (.aload_n 0, 1) := by decide +kernel
theorem dX6_feed_35 : decode cX6_feed 35 = .ok (.getfield 25, 3) := by decide +kernel
theorem dX6_feed_38 : decode cX6_feed 38 = .ok (.iload_n 3, 1) := by decide +kernel
theorem dX6_feed_39 : decode cX6_feed 39 = .ok (.invokevirtual 219, 3) := by decide +kernel
theorem dX6_feed_42 : decode cX6_feed 42 = .ok (.aload_n 0, 1) := by decide +kernel
theorem dX6_feed_43 : decode cX6_feed 43 = .ok (.getfield 25, 3) := by decide +kernel
theorem dX6_feed_46 : decode cX6_feed 46 = .ok (.getfield 218, 3) := by decide +kernel
theorem dX6_feed_49 : decode cX6_feed 49 = .ok (.ireturn, 1) := by decide +kernel
theorem dX6_trim_0 : decode cX6_trim 0 = .ok (.iload_n 1, 1) := by decide +kernel
theorem dX6_trim_1 : decode cX6_trim 1 = .ok (.ifCond .lt 14, 3) := by decide +kernel
theorem dX6_trim_4 : decode cX6_trim 4 = .ok (.iload_n 1, 1) := by decide +kernel
theorem dX6_trim_5 : decode cX6_trim 5 = .ok (.aload_n 0, 1) := by decide +kernel
theorem dX6_trim_6 : decode cX6_trim 6 = .ok (.getfield 25, 3) := by decide +kernel
theorem dX6_trim_9 : decode cX6_trim 9 = .ok (.getfield 218, 3) := by decide +kernel
theorem dX6_trim_12 : decode cX6_trim 12 = .ok (.if_icmp .le 6, 3) := by decide +kernel
theorem dX6_trim_15 : decode cX6_trim 15 = .ok (.ldc 59, 2) := by decide +kernel
theorem dX6_trim_17 : decode cX6_trim 17 = .ok (.ireturn, 1) := by decide +kernel
theorem dX6_trim_18 : decode cX6_trim 18 = .ok (.aload_n 0, 1) := by decide +kernel
theorem dX6_trim_19 : decode cX6_trim 19 = .ok (.getfield 25, 3) := by decide +kernel
theorem dX6_trim_22 : decode cX6_trim 22 = .ok (.iload_n 1, 1) := by decide +kernel
theorem dX6_trim_23 : decode cX6_trim 23 = .ok (.putfield 218, 3) := by decide +kernel
theorem dX6_trim_26 : decode cX6_trim 26 = .ok (.iload_n 1, 1) := by decide +kernel
theorem dX6_trim_27 : decode cX6_trim 27 = .ok (.ireturn, 1) := by decide +kernel
theorem dX6_text_0 : decode cX6_text 0 = .ok (.aload_n 0, 1) := by decide +kernel
theorem dX6_text_1 : decode cX6_text 1 = .ok (.getfield 25, 3) := by decide +kernel
theorem dX6_text_4 : decode cX6_text 4 = .ok (.invokevirtual 222, 3) := by decide +kernel
theorem dX6_text_7 : decode cX6_text 7 = .ok (.istore_n 1, 1) := by decide +kernel
theorem dX6_text_8 : decode cX6_text 8 = .ok (.aload_n 0, 1) := by decide +kernel
theorem dX6_text_9 : decode cX6_text 9 = .ok (.getfield 25, 3) := by decide +kernel
theorem dX6_text_12 : decode cX6_text 12 = .ok (.iconst 0, 1) := by decide +kernel
theorem dX6_text_13 : decode cX6_text 13 = .ok (.putfield 218, 3) := by decide +kernel
theorem dX6_text_16 : decode cX6_text 16 = .ok (.iload_n 1, 1) := by decide +kernel
theorem dX6_text_17 : decode cX6_text 17 = .ok (.ifCond .ne 14, 3) := by decide +kernel
theorem dX6_text_20 : decode cX6_text 20 = .ok (.bipush (-100), 2) := by decide +kernel
theorem dX6_text_22 : decode cX6_text 22 = .ok (.aload_n 0, 1) := by decide +kernel
theorem dX6_text_23 : decode cX6_text 23 = .ok (.getfield 25, 3) := by decide +kernel
theorem dX6_text_26 : decode cX6_text 26 = .ok (.getfield 226, 3) := by decide +kernel
theorem dX6_text_29 : decode cX6_text 29 = .ok (.isub, 1) := by decide +kernel
theorem dX6_text_30 : decode cX6_text 30 = .ok (.ireturn, 1) := by decide +kernel
theorem dX6_text_31 : decode cX6_text 31 = .ok (.aload_n 0, 1) := by decide +kernel
theorem dX6_text_32 : decode cX6_text 32 = .ok (.getfield 10, 3) := by decide +kernel
theorem dX6_text_35 : decode cX6_text 35 = .ok (.getfield 229, 3) := by decide +kernel
theorem dX6_text_38 : decode cX6_text 38 = .ok (.bipush 14, 2) := by decide +kernel
theorem dX6_text_40 : decode cX6_text 40 = .ok (.if_icmp .lt 6, 3) := by decide +kernel
theorem dX6_text_43 : decode cX6_text 43 = .ok (.ldc 63, 2) := by decide +kernel
theorem dX6_text_45 : decode cX6_text 45 = .ok (.ireturn, 1) := by decide +kernel
theorem dX6_text_46 : decode cX6_text 46 = .ok (.aload_n 0, 1) := by decide +kernel
theorem dX6_text_47 : decode cX6_text 47 = .ok (.getfield 10, 3) := by decide +kernel
theorem dX6_text_50 : decode cX6_text 50 = .ok (.aload_n 0, 1) := by decide +kernel
theorem dX6_text_51 : decode cX6_text 51 = .ok (.getfield 25, 3) := by decide +kernel
theorem dX6_text_54 : decode cX6_text 54 = .ok (.aload_n 0, 1) := by decide +kernel
theorem dX6_text_55 : decode cX6_text 55 = .ok (.getfield 10, 3) := by decide +kernel
theorem dX6_text_58 : decode cX6_text 58 = .ok (.getfield 229, 3) := by decide +kernel
theorem dX6_text_61 : decode cX6_text 61 = .ok (.invokevirtual 232, 3) := by decide +kernel
theorem dX6_text_64 : decode cX6_text 64 = .ok (.invokevirtual 236, 3) := by decide +kernel
theorem dX6_text_67 : decode cX6_text 67 = .ok (.aload_n 0, 1) := by decide +kernel
theorem dX6_text_68 : decode cX6_text 68 = .ok (.getfield 10, 3) := by decide +kernel
theorem dX6_text_71 : decode cX6_text 71 = .ok (.getfield 229, 3) := by decide +kernel
theorem dX6_text_74 : decode cX6_text 74 = .ok (.iconst 1, 1) := by decide +kernel
theorem dX6_text_75 : decode cX6_text 75 = .ok (.isub, 1) := by decide +kernel
theorem dX6_text_76 : decode cX6_text 76 = .ok (.ireturn, 1) := by decide +kernel
theorem dX6_textTold_0 : decode cX6_textTold 0 = .ok (.iload_n 1, 1) := by decide +kernel
theorem dX6_textTold_1 : decode cX6_textTold 1 = .ok (.ifCond .lt 23, 3) := by decide +kernel
theorem dX6_textTold_4 : decode cX6_textTold 4 = .ok (.iload_n 1, 1) := by decide +kernel
theorem dX6_textTold_5 : decode cX6_textTold 5 = .ok (.aload_n 0, 1) := by decide +kernel
theorem dX6_textTold_6 : decode cX6_textTold 6 = .ok (.getfield 10, 3) := by decide +kernel
theorem dX6_textTold_9 : decode cX6_textTold 9 = .ok (.getfield 229, 3) := by decide +kernel
theorem dX6_textTold_12 : decode cX6_textTold 12 = .ok (.if_icmp .ge 12, 3) := by decide +kernel
theorem dX6_textTold_15 : decode cX6_textTold 15 = .ok (.iload_n 2, 1) := by decide +kernel
theorem dX6_textTold_16 : decode cX6_textTold 16 = .ok (.ifCond .lt 8, 3) := by decide +kernel
theorem dX6_textTold_19 : decode cX6_textTold 19 = .ok (.iload_n 2, 1) := by decide +kernel
theorem dX6_textTold_20 : decode cX6_textTold 20 = .ok (.iconst 1, 1) := by decide +kernel
theorem dX6_textTold_21 : decode cX6_textTold 21 = .ok (.if_icmp .le 6, 3) := by decide +kernel
theorem dX6_textTold_24 : decode cX6_textTold 24 = .ok (.ldc 59, 2) := by decide +kernel
theorem dX6_textTold_26 : decode cX6_textTold 26 = .ok (.ireturn, 1) := by decide +kernel
theorem dX6_textTold_27 : decode cX6_textTold 27 = .ok (.aload_n 0, 1) := by decide +kernel
theorem dX6_textTold_28 : decode cX6_textTold 28 = .ok (.getfield 10, 3) := by decide +kernel
theorem dX6_textTold_31 : decode cX6_textTold 31 = .ok (.getfield 240, 3) := by decide +kernel
theorem dX6_textTold_34 : decode cX6_textTold 34 = .ok (.iload_n 1, 1) := by decide +kernel
theorem dX6_textTold_35 : decode cX6_textTold 35 = .ok (.aaload, 1) := by decide +kernel
theorem dX6_textTold_36 : decode cX6_textTold 36 = .ok (.astore_n 3, 1) := by decide +kernel
theorem dX6_textTold_37 : decode cX6_textTold 37 = .ok (.aload_n 3, 1) := by decide +kernel
theorem dX6_textTold_38 : decode cX6_textTold 38 = .ok (.ifnonnull 8, 3) := by decide +kernel
theorem dX6_textTold_41 : decode cX6_textTold 41 = .ok (.ldc 59, 2) := by decide +kernel
theorem dX6_textTold_43 : decode cX6_textTold 43 = .ok (.goto 18, 3) := by decide +kernel
theorem dX6_textTold_46 : decode cX6_textTold 46 = .ok (.iload_n 2, 1) := by decide +kernel
theorem dX6_textTold_47 : decode cX6_textTold 47 = .ok (.ifCond .ne 10, 3) := by decide +kernel
theorem dX6_textTold_50 : decode cX6_textTold 50 = .ok (.aload_n 3, 1) := by decide +kernel
theorem dX6_textTold_51 : decode cX6_textTold 51 = .ok (.getfield 243, 3) := by decide +kernel
theorem dX6_textTold_54 : decode cX6_textTold 54 = .ok (.goto 7, 3) := by decide +kernel
theorem dX6_textTold_57 : decode cX6_textTold 57 = .ok (.aload_n 3, 1) := by decide +kernel
theorem dX6_textTold_58 : decode cX6_textTold 58 = .ok (.getfield 246, 3) := by decide +kernel
theorem dX6_textTold_61 : decode cX6_textTold 61 = .ok (.ireturn, 1) := by decide +kernel
theorem dX6_why_0 : decode cX6_why 0 = .ok (.iload_n 1, 1) := by decide +kernel
theorem dX6_why_1 : decode cX6_why 1 = .ok (.ifCond .lt 8, 3) := by decide +kernel
theorem dX6_why_4 : decode cX6_why 4 = .ok (.iload_n 1, 1) := by decide +kernel
theorem dX6_why_5 : decode cX6_why 5 = .ok (.iconst 3, 1) := by decide +kernel
theorem dX6_why_6 : decode cX6_why 6 = .ok (.if_icmp .lt 6, 3) := by decide +kernel
theorem dX6_why_9 : decode cX6_why 9 = .ok (.ldc 59, 2) := by decide +kernel
theorem dX6_why_11 : decode cX6_why 11 = .ok (.ireturn, 1) := by decide +kernel
theorem dX6_why_12 : decode cX6_why 12 = .ok (.aload_n 0, 1) := by decide +kernel
theorem dX6_why_13 : decode cX6_why 13 = .ok (.getfield 10, 3) := by decide +kernel
theorem dX6_why_16 : decode cX6_why 16 = .ok (.getfield 202, 3) := by decide +kernel
theorem dX6_why_19 : decode cX6_why 19 = .ok (.iload_n 1, 1) := by decide +kernel
theorem dX6_why_20 : decode cX6_why 20 = .ok (.aaload, 1) := by decide +kernel
theorem dX6_why_21 : decode cX6_why 21 = .ok (.astore_n 2, 1) := by decide +kernel
theorem dX6_why_22 : decode cX6_why 22 = .ok (.aload_n 2, 1) := by decide +kernel
theorem dX6_why_23 : decode cX6_why 23 = .ok (.ifnonnull 8, 3) := by decide +kernel
theorem dX6_why_26 : decode cX6_why 26 = .ok (.ldc 176, 2) := by decide +kernel
theorem dX6_why_28 : decode cX6_why 28 = .ok (.goto 7, 3) := by decide +kernel
theorem dX6_why_31 : decode cX6_why 31 = .ok (.aload_n 2, 1) := by decide +kernel
theorem dX6_why_32 : decode cX6_why 32 = .ok (.getfield 249, 3) := by decide +kernel
theorem dX6_why_35 : decode cX6_why 35 = .ok (.ireturn, 1) := by decide +kernel
theorem dX6_sheet_0 : decode cX6_sheet 0 = .ok (.iload_n 1, 1) := by decide +kernel
theorem dX6_sheet_1 : decode cX6_sheet 1 = .ok (.invokestatic 191, 3) := by decide +kernel
theorem dX6_sheet_4 : decode cX6_sheet 4 = .ok (.ifCond .eq 13, 3) := by decide +kernel
theorem dX6_sheet_7 : decode cX6_sheet 7 = .ok (.iload_n 2, 1) := by decide +kernel
theorem dX6_sheet_8 : decode cX6_sheet 8 = .ok (.iconst (-1), 1) := by decide +kernel
theorem dX6_sheet_9 : decode cX6_sheet 9 = .ok (.if_icmp .lt 8, 3) := by decide +kernel
theorem dX6_sheet_12 : decode cX6_sheet 12 = .ok (.iload_n 2, 1) := by decide +kernel
theorem dX6_sheet_13 : decode cX6_sheet 13 = .ok (.iconst 1, 1) := by decide +kernel
theorem dX6_sheet_14 : decode cX6_sheet 14 = .ok (.if_icmp .le 6, 3) := by decide +kernel
theorem dX6_sheet_17 : decode cX6_sheet 17 = .ok (.ldc 59, 2) := by decide +kernel
theorem dX6_sheet_19 : decode cX6_sheet 19 = .ok (.ireturn, 1) := by decide +kernel
theorem dX6_sheet_20 : decode cX6_sheet 20 = .ok (.iload_n 2, 1) := by decide +kernel
theorem dX6_sheet_21 : decode cX6_sheet 21 = .ok (.iconst (-1), 1) := by decide +kernel
theorem dX6_sheet_22 : decode cX6_sheet 22 = .ok (.if_icmp .ne 16, 3) := by decide +kernel
theorem dX6_sheet_25 : decode cX6_sheet 25 = .ok (.aload_n 0, 1) := by decide +kernel
theorem dX6_sheet_26 : decode cX6_sheet 26 = .ok (.getfield 31, 3) := by decide +kernel
theorem dX6_sheet_29 : decode cX6_sheet 29 = .ok (.iload_n 1, 1) := by decide +kernel
theorem dX6_sheet_30 : decode cX6_sheet 30 = .ok (.aaload, 1) := by decide +kernel
theorem dX6_sheet_31 : decode cX6_sheet 31 = .ok (.iconst (-1), 1) := by decide +kernel
theorem dX6_sheet_32 : decode cX6_sheet 32 = .ok (.iconst 0, 1) := by decide +kernel
theorem dX6_sheet_33 : decode cX6_sheet 33 = .ok (.invokevirtual 252, 3) := by decide +kernel
theorem dX6_sheet_36 : decode cX6_sheet 36 = .ok (.iconst 0, 1) := by decide +kernel
theorem dX6_sheet_37 : decode cX6_sheet 37 = .ok (.ireturn, 1) := by decide +kernel
theorem dX6_sheet_38 : decode cX6_sheet 38 = .ok (.iload_n 3, 1) := by decide +kernel
theorem dX6_sheet_39 : decode cX6_sheet 39 = .ok (.bipush 24, 2) := by decide +kernel
theorem dX6_sheet_41 : decode cX6_sheet 41 = .ok (.if_icmp .le 6, 3) := by decide +kernel
theorem dX6_sheet_44 : decode cX6_sheet 44 = .ok (.ldc 59, 2) := by decide +kernel
theorem dX6_sheet_46 : decode cX6_sheet 46 = .ok (.ireturn, 1) := by decide +kernel
theorem dX6_sheet_47 : decode cX6_sheet 47 = .ok (.iload_n 3, 1) := by decide +kernel
theorem dX6_sheet_48 : decode cX6_sheet 48 = .ok (.ifCond .ge 6, 3) := by decide +kernel
theorem dX6_sheet_51 : decode cX6_sheet 51 = .ok (.ldc 255, 2) := by decide +kernel
theorem dX6_sheet_53 : decode cX6_sheet 53 = .ok (.ireturn, 1) := by decide +kernel
theorem dX6_sheet_54 : decode cX6_sheet 54 = .ok (.aload_n 0, 1) := by decide +kernel
theorem dX6_sheet_55 : decode cX6_sheet 55 = .ok (.getfield 31, 3) := by decide +kernel
theorem dX6_sheet_58 : decode cX6_sheet 58 = .ok (.iload_n 1, 1) := by decide +kernel
theorem dX6_sheet_59 : decode cX6_sheet 59 = .ok (.aaload, 1) := by decide +kernel
theorem dX6_sheet_60 : decode cX6_sheet 60 = .ok (.iload_n 2, 1) := by decide +kernel
theorem dX6_sheet_61 : decode cX6_sheet 61 = .ok (.iload_n 3, 1) := by decide +kernel
theorem dX6_sheet_62 : decode cX6_sheet 62 = .ok (.invokevirtual 252, 3) := by decide +kernel
theorem dX6_sheet_65 : decode cX6_sheet 65 = .ok (.iload_n 3, 1) := by decide +kernel
theorem dX6_sheet_66 : decode cX6_sheet 66 = .ok (.ireturn, 1) := by decide +kernel
theorem dX6_mark_0 : decode cX6_mark 0 = .ok (.iload_n 1, 1) := by decide +kernel
theorem dX6_mark_1 : decode cX6_mark 1 = .ok (.invokestatic 191, 3) := by decide +kernel
theorem dX6_mark_4 : decode cX6_mark 4 = .ok (.ifCond .ne 6, 3) := by decide +kernel
theorem dX6_mark_7 : decode cX6_mark 7 = .ok (.ldc 59, 2) := by decide +kernel
theorem dX6_mark_9 : decode cX6_mark 9 = .ok (.ireturn, 1) := by decide +kernel
theorem dX6_mark_10 : decode cX6_mark 10 = .ok (.aload_n 0, 1) := by decide +kernel
theorem dX6_mark_11 : decode cX6_mark 11 = .ok (.getfield 31, 3) := by decide +kernel
theorem dX6_mark_14 : decode cX6_mark 14 = .ok (.iload_n 1, 1) := by decide +kernel
theorem dX6_mark_15 : decode cX6_mark 15 = .ok (.aaload, 1) := by decide +kernel
theorem dX6_mark_16 : decode cX6_mark 16 = .ok (.astore 4, 2) := by decide +kernel
theorem dX6_mark_18 : decode cX6_mark 18 = .ok (.aload 4, 2) := by decide +kernel
theorem dX6_mark_20 : decode cX6_mark 20 = .ok (.getfield 194, 3) := by decide +kernel
theorem dX6_mark_23 : decode cX6_mark 23 = .ok (.iconst (-1), 1) := by decide +kernel
theorem dX6_mark_24 : decode cX6_mark 24 = .ok (.if_icmp .ne 6, 3) := by decide +kernel
theorem dX6_mark_27 : decode cX6_mark 27 = .ok (.ldc 197, 2) := by decide +kernel
theorem dX6_mark_29 : decode cX6_mark 29 = .ok (.ireturn, 1) := by decide +kernel
theorem dX6_mark_30 : decode cX6_mark 30 = .ok (.aload 4, 2) := by decide +kernel
theorem dX6_mark_32 : decode cX6_mark 32 = .ok (.iload_n 2, 1) := by decide +kernel
theorem dX6_mark_33 : decode cX6_mark 33 = .ok (.invokevirtual 256, 3) := by decide +kernel
theorem dX6_mark_36 : decode cX6_mark 36 = .ok (.ifCond .ne 7, 3) := by decide +kernel
theorem dX6_mark_39 : decode cX6_mark 39 = .ok (.ldc_w 259, 3) := by decide +kernel
theorem dX6_mark_42 : decode cX6_mark 42 = .ok (.ireturn, 1) := by decide +kernel
theorem dX6_mark_43 : decode cX6_mark 43 = .ok (.aload 4, 2) := by decide +kernel
theorem dX6_mark_45 : decode cX6_mark 45 = .ok (.getfield 194, 3) := by decide +kernel
theorem dX6_mark_48 : decode cX6_mark 48 = .ok (.ifCond .ne 23, 3) := by decide +kernel
theorem dX6_mark_51 : decode cX6_mark 51 = .ok (.iload_n 3, 1) := by decide +kernel
theorem dX6_mark_52 : decode cX6_mark 52 = .ok (.ldc 176, 2) := by decide +kernel
theorem dX6_mark_54 : decode cX6_mark 54 = .ok (.if_icmp .ne 6, 3) := by decide +kernel
theorem dX6_mark_57 : decode cX6_mark 57 = .ok (.ldc 111, 2) := by decide +kernel
theorem dX6_mark_59 : decode cX6_mark 59 = .ok (.ireturn, 1) := by decide +kernel
theorem dX6_mark_60 : decode cX6_mark 60 = .ok (.aload 4, 2) := by decide +kernel
theorem dX6_mark_62 : decode cX6_mark 62 = .ok (.getfield 260, 3) := by decide +kernel
theorem dX6_mark_65 : decode cX6_mark 65 = .ok (.iload_n 2, 1) := by decide +kernel
theorem dX6_mark_66 : decode cX6_mark 66 = .ok (.iload_n 3, 1) := by decide +kernel
theorem dX6_mark_67 : decode cX6_mark 67 = .ok (.i2s, 1) := by decide +kernel
theorem dX6_mark_68 : decode cX6_mark 68 = .ok (.iastore, 1) := by decide +kernel
theorem dX6_mark_69 : decode cX6_mark 69 = .ok (.iconst 1, 1) := by decide +kernel
theorem dX6_mark_70 : decode cX6_mark 70 = .ok (.ireturn, 1) := by decide +kernel
theorem dX6_mark_71 : decode cX6_mark 71 = .ok (.iload_n 3, 1) := by decide +kernel
theorem dX6_mark_72 : decode cX6_mark 72 = .ok (.ldc 176, 2) := by decide +kernel
theorem dX6_mark_74 : decode cX6_mark 74 = .ok (.if_icmp .eq 20, 3) := by decide +kernel
theorem dX6_mark_77 : decode cX6_mark 77 = .ok (.iload_n 3, 1) := by decide +kernel
theorem dX6_mark_78 : decode cX6_mark 78 = .ok (.ldc_w 263, 3) := by decide +kernel
theorem dX6_mark_81 : decode cX6_mark 81 = .ok (.if_icmp .lt 10, 3) := by decide +kernel
theorem dX6_mark_84 : decode cX6_mark 84 = .ok (.iload_n 3, 1) := by decide +kernel
theorem dX6_mark_85 : decode cX6_mark 85 = .ok (.ldc_w 264, 3) := by decide +kernel
theorem dX6_mark_88 : decode cX6_mark 88 = .ok (.if_icmp .le 6, 3) := by decide +kernel
theorem dX6_mark_91 : decode cX6_mark 91 = .ok (.ldc 59, 2) := by decide +kernel
theorem dX6_mark_93 : decode cX6_mark 93 = .ok (.ireturn, 1) := by decide +kernel
theorem dX6_mark_94 : decode cX6_mark 94 = .ok (.aload 4, 2) := by decide +kernel
theorem dX6_mark_96 : decode cX6_mark 96 = .ok (.getfield 260, 3) := by decide +kernel
theorem dX6_mark_99 : decode cX6_mark 99 = .ok (.iload_n 2, 1) := by decide +kernel
theorem dX6_mark_100 : decode cX6_mark 100 = .ok (.iload_n 3, 1) := by decide +kernel
theorem dX6_mark_101 : decode cX6_mark 101 = .ok (.iastore, 1) := by decide +kernel
theorem dX6_mark_102 : decode cX6_mark 102 = .ok (.iconst 1, 1) := by decide +kernel
theorem dX6_mark_103 : decode cX6_mark 103 = .ok (.ireturn, 1) := by decide +kernel
theorem dX6_pour_0 : decode cX6_pour 0 = .ok (.iload_n 1, 1) := by decide +kernel
theorem dX6_pour_1 : decode cX6_pour 1 = .ok (.invokestatic 191, 3) := by decide +kernel
theorem dX6_pour_4 : decode cX6_pour 4 = .ok (.ifCond .ne 6, 3) := by decide +kernel
theorem dX6_pour_7 : decode cX6_pour 7 = .ok (.ldc 59, 2) := by decide +kernel
theorem dX6_pour_9 : decode cX6_pour 9 = .ok (.ireturn, 1) := by decide +kernel
theorem dX6_pour_10 : decode cX6_pour 10 = .ok (.aload_n 0, 1) := by decide +kernel
theorem dX6_pour_11 : decode cX6_pour 11 = .ok (.getfield 31, 3) := by decide +kernel
theorem dX6_pour_14 : decode cX6_pour 14 = .ok (.iload_n 1, 1) := by decide +kernel
theorem dX6_pour_15 : decode cX6_pour 15 = .ok (.aaload, 1) := by decide +kernel
theorem dX6_pour_16 : decode cX6_pour 16 = .ok (.getfield 194, 3) := by decide +kernel
theorem dX6_pour_19 : decode cX6_pour 19 = .ok (.iconst (-1), 1) := by decide +kernel
theorem dX6_pour_20 : decode cX6_pour 20 = .ok (.if_icmp .ne 6, 3) := by decide +kernel
theorem dX6_pour_23 : decode cX6_pour 23 = .ok (.ldc 197, 2) := by decide +kernel
theorem dX6_pour_25 : decode cX6_pour 25 = .ok (.ireturn, 1) := by decide +kernel
theorem dX6_pour_26 : decode cX6_pour 26 = .ok (.aload_n 0, 1) := by decide +kernel
theorem dX6_pour_27 : decode cX6_pour 27 = .ok (.getfield 10, 3) := by decide +kernel
theorem dX6_pour_30 : decode cX6_pour 30 = .ok (.aload_n 0, 1) := by decide +kernel
theorem dX6_pour_31 : decode cX6_pour 31 = .ok (.getfield 31, 3) := by decide +kernel
theorem dX6_pour_34 : decode cX6_pour 34 = .ok (.iload_n 1, 1) := by decide +kernel
theorem dX6_pour_35 : decode cX6_pour 35 = .ok (.aaload, 1) := by decide +kernel
theorem dX6_pour_36 : decode cX6_pour 36 = .ok (.invokevirtual 265, 3) := by decide +kernel
theorem dX6_pour_39 : decode cX6_pour 39 = .ok (.ireturn, 1) := by decide +kernel
theorem dX6_reads_0 : decode cX6_reads 0 = .ok (.iload_n 1, 1) := by decide +kernel
theorem dX6_reads_1 : decode cX6_reads 1 = .ok (.invokestatic 191, 3) := by decide +kernel
theorem dX6_reads_4 : decode cX6_reads 4 = .ok (.ifCond .ne 6, 3) := by decide +kernel
theorem dX6_reads_7 : decode cX6_reads 7 = .ok (.ldc 59, 2) := by decide +kernel
theorem dX6_reads_9 : decode cX6_reads 9 = .ok (.ireturn, 1) := by decide +kernel
theorem dX6_reads_10 : decode cX6_reads 10 = .ok (.aload_n 0, 1) := by decide +kernel
theorem dX6_reads_11 : decode cX6_reads 11 = .ok (.getfield 31, 3) := by decide +kernel
theorem dX6_reads_14 : decode cX6_reads 14 = .ok (.iload_n 1, 1) := by decide +kernel
theorem dX6_reads_15 : decode cX6_reads 15 = .ok (.aaload, 1) := by decide +kernel
theorem dX6_reads_16 : decode cX6_reads 16 = .ok (.astore_n 2, 1) := by decide +kernel
theorem dX6_reads_17 : decode cX6_reads 17 = .ok (.aload_n 2, 1) := by decide +kernel
theorem dX6_reads_18 : decode cX6_reads 18 = .ok (.getfield 194, 3) := by decide +kernel
theorem dX6_reads_21 : decode cX6_reads 21 = .ok (.iconst (-1), 1) := by decide +kernel
theorem dX6_reads_22 : decode cX6_reads 22 = .ok (.if_icmp .ne 6, 3) := by decide +kernel
theorem dX6_reads_25 : decode cX6_reads 25 = .ok (.ldc 197, 2) := by decide +kernel
theorem dX6_reads_27 : decode cX6_reads 27 = .ok (.ireturn, 1) := by decide +kernel
theorem dX6_reads_28 : decode cX6_reads 28 = .ok (.iconst 0, 1) := by decide +kernel
theorem dX6_reads_29 : decode cX6_reads 29 = .ok (.istore_n 3, 1) := by decide +kernel
theorem dX6_reads_30 : decode cX6_reads 30 = .ok (.iload_n 3, 1) := by decide +kernel
theorem dX6_reads_31 : decode cX6_reads 31 = .ok (.aload_n 2, 1) := by decide +kernel
theorem dX6_reads_32 : decode cX6_reads 32 = .ok (.getfield 268, 3) := by decide +kernel
theorem dX6_reads_35 : decode cX6_reads 35 = .ok (.if_icmp .ge 51, 3) := by decide +kernel
theorem dX6_reads_38 : decode cX6_reads 38 = .ok (.aload_n 2, 1) := by decide +kernel
theorem dX6_reads_39 : decode cX6_reads 39 = .ok (.iload_n 3, 1) := by decide +kernel
theorem dX6_reads_40 : decode cX6_reads 40 = .ok (.invokevirtual 269, 3) := by decide +kernel
theorem dX6_reads_43 : decode cX6_reads 43 = .ok (.ifCond .eq 37, 3) := by decide +kernel
theorem dX6_reads_46 : decode cX6_reads 46 = .ok (.iload_n 3, 1) := by decide +kernel
theorem dX6_reads_47 : decode cX6_reads 47 = .ok (.aload_n 0, 1) := by decide +kernel
theorem dX6_reads_48 : decode cX6_reads 48 = .ok (.getfield 10, 3) := by decide +kernel
theorem dX6_reads_51 : decode cX6_reads 51 = .ok (.getfield 60, 3) := by decide +kernel
theorem dX6_reads_54 : decode cX6_reads 54 = .ok (.if_icmp .ge 24, 3) := by decide +kernel
theorem dX6_reads_57 : decode cX6_reads 57 = .ok (.aload_n 2, 1) := by decide +kernel
theorem dX6_reads_58 : decode cX6_reads 58 = .ok (.getfield 260, 3) := by decide +kernel
theorem dX6_reads_61 : decode cX6_reads 61 = .ok (.iload_n 3, 1) := by decide +kernel
theorem dX6_reads_62 : decode cX6_reads 62 = .ok (.iaload, 1) := by decide +kernel
theorem dX6_reads_63 : decode cX6_reads 63 = .ok (.aload_n 0, 1) := by decide +kernel
theorem dX6_reads_64 : decode cX6_reads 64 = .ok (.getfield 10, 3) := by decide +kernel
theorem dX6_reads_67 : decode cX6_reads 67 = .ok (.getfield 72, 3) := by decide +kernel
theorem dX6_reads_70 : decode cX6_reads 70 = .ok (.iload_n 3, 1) := by decide +kernel
theorem dX6_reads_71 : decode cX6_reads 71 = .ok (.aaload, 1) := by decide +kernel
theorem dX6_reads_72 : decode cX6_reads 72 = .ok (.getfield 170, 3) := by decide +kernel
theorem dX6_reads_75 : decode cX6_reads 75 = .ok (.if_icmp .eq 5, 3) := by decide +kernel
theorem dX6_reads_78 : decode cX6_reads 78 = .ok (.iload_n 3, 1) := by decide +kernel
theorem dX6_reads_79 : decode cX6_reads 79 = .ok (.ireturn, 1) := by decide +kernel
theorem dX6_reads_80 : decode cX6_reads 80 = .ok (.iinc 3 1, 3) := by decide +kernel
theorem dX6_reads_83 : decode cX6_reads 83 = .ok (.goto (-53), 3) := by decide +kernel
theorem dX6_reads_86 : decode cX6_reads 86 = .ok (.ldc 176, 2) := by decide +kernel
theorem dX6_reads_88 : decode cX6_reads 88 = .ok (.ireturn, 1) := by decide +kernel
theorem dX6_copy_0 : decode cX6_copy 0 = .ok (.iload_n 1, 1) := by decide +kernel
theorem dX6_copy_1 : decode cX6_copy 1 = .ok (.invokestatic 191, 3) := by decide +kernel
theorem dX6_copy_4 : decode cX6_copy 4 = .ok (.ifCond .eq 10, 3) := by decide +kernel
theorem dX6_copy_7 : decode cX6_copy 7 = .ok (.iload_n 3, 1) := by decide +kernel
theorem dX6_copy_8 : decode cX6_copy 8 = .ok (.invokestatic 191, 3) := by decide +kernel
theorem dX6_copy_11 : decode cX6_copy 11 = .ok (.ifCond .ne 6, 3) := by decide +kernel
theorem dX6_copy_14 : decode cX6_copy 14 = .ok (.ldc 59, 2) := by decide +kernel
theorem dX6_copy_16 : decode cX6_copy 16 = .ok (.ireturn, 1) := by decide +kernel
theorem dX6_copy_17 : decode cX6_copy 17 = .ok (.aload_n 0, 1) := by decide +kernel
theorem dX6_copy_18 : decode cX6_copy 18 = .ok (.getfield 31, 3) := by decide +kernel
theorem dX6_copy_21 : decode cX6_copy 21 = .ok (.iload_n 1, 1) := by decide +kernel
theorem dX6_copy_22 : decode cX6_copy 22 = .ok (.aaload, 1) := by decide +kernel
theorem dX6_copy_23 : decode cX6_copy 23 = .ok (.astore 6, 2) := by decide +kernel
theorem dX6_copy_25 : decode cX6_copy 25 = .ok (.aload_n 0, 1) := by decide +kernel
theorem dX6_copy_26 : decode cX6_copy 26 = .ok (.getfield 31, 3) := by decide +kernel
theorem dX6_copy_29 : decode cX6_copy 29 = .ok (.iload_n 3, 1) := by decide +kernel
theorem dX6_copy_30 : decode cX6_copy 30 = .ok (.aaload, 1) := by decide +kernel
theorem dX6_copy_31 : decode cX6_copy 31 = .ok (.astore 7, 2) := by decide +kernel
theorem dX6_copy_33 : decode cX6_copy 33 = .ok (.aload 6, 2) := by decide +kernel
theorem dX6_copy_35 : decode cX6_copy 35 = .ok (.getfield 194, 3) := by decide +kernel
theorem dX6_copy_38 : decode cX6_copy 38 = .ok (.iconst (-1), 1) := by decide +kernel
theorem dX6_copy_39 : decode cX6_copy 39 = .ok (.if_icmp .eq 12, 3) := by decide +kernel
theorem dX6_copy_42 : decode cX6_copy 42 = .ok (.aload 7, 2) := by decide +kernel
theorem dX6_copy_44 : decode cX6_copy 44 = .ok (.getfield 194, 3) := by decide +kernel
theorem dX6_copy_47 : decode cX6_copy 47 = .ok (.iconst (-1), 1) := by decide +kernel
theorem dX6_copy_48 : decode cX6_copy 48 = .ok (.if_icmp .ne 6, 3) := by decide +kernel
theorem dX6_copy_51 : decode cX6_copy 51 = .ok (.ldc 197, 2) := by decide +kernel
theorem dX6_copy_53 : decode cX6_copy 53 = .ok (.ireturn, 1) := by decide +kernel
theorem dX6_copy_54 : decode cX6_copy 54 = .ok (.aload 6, 2) := by decide +kernel
theorem dX6_copy_56 : decode cX6_copy 56 = .ok (.getfield 194, 3) := by decide +kernel
theorem dX6_copy_59 : decode cX6_copy 59 = .ok (.aload 7, 2) := by decide +kernel
theorem dX6_copy_61 : decode cX6_copy 61 = .ok (.getfield 194, 3) := by decide +kernel
theorem dX6_copy_64 : decode cX6_copy 64 = .ok (.if_icmp .eq 6, 3) := by decide +kernel
theorem dX6_copy_67 : decode cX6_copy 67 = .ok (.ldc 111, 2) := by decide +kernel
theorem dX6_copy_69 : decode cX6_copy 69 = .ok (.ireturn, 1) := by decide +kernel
theorem dX6_copy_70 : decode cX6_copy 70 = .ok (.aload 6, 2) := by decide +kernel
theorem dX6_copy_72 : decode cX6_copy 72 = .ok (.iload_n 2, 1) := by decide +kernel
theorem dX6_copy_73 : decode cX6_copy 73 = .ok (.iload 5, 2) := by decide +kernel
theorem dX6_copy_75 : decode cX6_copy 75 = .ok (.invokevirtual 272, 3) := by decide +kernel
theorem dX6_copy_78 : decode cX6_copy 78 = .ok (.ifCond .eq 15, 3) := by decide +kernel
theorem dX6_copy_81 : decode cX6_copy 81 = .ok (.aload 7, 2) := by decide +kernel
theorem dX6_copy_83 : decode cX6_copy 83 = .ok (.iload 4, 2) := by decide +kernel
theorem dX6_copy_85 : decode cX6_copy 85 = .ok (.iload 5, 2) := by decide +kernel
theorem dX6_copy_87 : decode cX6_copy 87 = .ok (.invokevirtual 272, 3) := by decide +kernel
theorem dX6_copy_90 : decode cX6_copy 90 = .ok (.ifCond .ne 7, 3) := by decide +kernel
theorem dX6_copy_93 : decode cX6_copy 93 = .ok (.ldc_w 259, 3) := by decide +kernel
theorem dX6_copy_96 : decode cX6_copy 96 = .ok (.ireturn, 1) := by decide +kernel
theorem dX6_copy_97 : decode cX6_copy 97 = .ok (.aload 6, 2) := by decide +kernel
theorem dX6_copy_99 : decode cX6_copy 99 = .ok (.getfield 260, 3) := by decide +kernel
theorem dX6_copy_102 : decode cX6_copy 102 = .ok (.iload_n 2, 1) := by decide +kernel
theorem dX6_copy_103 : decode cX6_copy 103 = .ok (.aload 7, 2) := by decide +kernel
theorem dX6_copy_105 : decode cX6_copy 105 = .ok (.getfield 260, 3) := by decide +kernel
theorem dX6_copy_108 : decode cX6_copy 108 = .ok (.iload 4, 2) := by decide +kernel
theorem dX6_copy_110 : decode cX6_copy 110 = .ok (.iload 5, 2) := by decide +kernel
theorem dX6_copy_112 : decode cX6_copy 112 = .ok (.invokestatic 275, 3) := by decide +kernel
theorem dX6_copy_115 : decode cX6_copy 115 = .ok (.iload 5, 2) := by decide +kernel
theorem dX6_copy_117 : decode cX6_copy 117 = .ok (.ireturn, 1) := by decide +kernel
theorem dX6_lay_0 : decode cX6_lay 0 = .ok (.iload_n 1, 1) := by decide +kernel
theorem dX6_lay_1 : decode cX6_lay 1 = .ok (.invokestatic 281, 3) := by decide +kernel
theorem dX6_lay_4 : decode cX6_lay 4 = .ok (.ifCond .eq 12, 3) := by decide +kernel
theorem dX6_lay_7 : decode cX6_lay 7 = .ok (.iload_n 2, 1) := by decide +kernel
theorem dX6_lay_8 : decode cX6_lay 8 = .ok (.ifCond .lt 8, 3) := by decide +kernel
theorem dX6_lay_11 : decode cX6_lay 11 = .ok (.iload_n 2, 1) := by decide +kernel
theorem dX6_lay_12 : decode cX6_lay 12 = .ok (.iconst 3, 1) := by decide +kernel
theorem dX6_lay_13 : decode cX6_lay 13 = .ok (.if_icmp .le 6, 3) := by decide +kernel
theorem dX6_lay_16 : decode cX6_lay 16 = .ok (.ldc 59, 2) := by decide +kernel
theorem dX6_lay_18 : decode cX6_lay 18 = .ok (.ireturn, 1) := by decide +kernel
theorem dX6_lay_19 : decode cX6_lay 19 = .ok (.iload_n 2, 1) := by decide +kernel
theorem dX6_lay_20 : decode cX6_lay 20 = .ok (.iconst 1, 1) := by decide +kernel
theorem dX6_lay_21 : decode cX6_lay 21 = .ok (.if_icmp .ne 11, 3) := by decide +kernel
theorem dX6_lay_24 : decode cX6_lay 24 = .ok (.aload_n 0, 1) := by decide +kernel
theorem dX6_lay_25 : decode cX6_lay 25 = .ok (.iload_n 3, 1) := by decide +kernel
theorem dX6_lay_26 : decode cX6_lay 26 = .ok (.invokevirtual 68, 3) := by decide +kernel
theorem dX6_lay_29 : decode cX6_lay 29 = .ok (.ifCond .eq 15, 3) := by decide +kernel
theorem dX6_lay_32 : decode cX6_lay 32 = .ok (.iload_n 2, 1) := by decide +kernel
theorem dX6_lay_33 : decode cX6_lay 33 = .ok (.iconst 2, 1) := by decide +kernel
theorem dX6_lay_34 : decode cX6_lay 34 = .ok (.if_icmp .ne 13, 3) := by decide +kernel
theorem dX6_lay_37 : decode cX6_lay 37 = .ok (.iload_n 3, 1) := by decide +kernel
theorem dX6_lay_38 : decode cX6_lay 38 = .ok (.invokestatic 191, 3) := by decide +kernel
theorem dX6_lay_41 : decode cX6_lay 41 = .ok (.ifCond .ne 6, 3) := by decide +kernel
theorem dX6_lay_44 : decode cX6_lay 44 = .ok (.ldc 59, 2) := by decide +kernel
theorem dX6_lay_46 : decode cX6_lay 46 = .ok (.ireturn, 1) := by decide +kernel
theorem dX6_lay_47 : decode cX6_lay 47 = .ok (.iload_n 2, 1) := by decide +kernel
theorem dX6_lay_48 : decode cX6_lay 48 = .ok (.iconst 2, 1) := by decide +kernel
theorem dX6_lay_49 : decode cX6_lay 49 = .ok (.if_icmp .ne 19, 3) := by decide +kernel
theorem dX6_lay_52 : decode cX6_lay 52 = .ok (.aload_n 0, 1) := by decide +kernel
theorem dX6_lay_53 : decode cX6_lay 53 = .ok (.getfield 31, 3) := by decide +kernel
theorem dX6_lay_56 : decode cX6_lay 56 = .ok (.iload_n 3, 1) := by decide +kernel
theorem dX6_lay_57 : decode cX6_lay 57 = .ok (.aaload, 1) := by decide +kernel
theorem dX6_lay_58 : decode cX6_lay 58 = .ok (.getfield 194, 3) := by decide +kernel
theorem dX6_lay_61 : decode cX6_lay 61 = .ok (.iconst (-1), 1) := by decide +kernel
theorem dX6_lay_62 : decode cX6_lay 62 = .ok (.if_icmp .ne 6, 3) := by decide +kernel
theorem dX6_lay_65 : decode cX6_lay 65 = .ok (.ldc 197, 2) := by decide +kernel
theorem dX6_lay_67 : decode cX6_lay 67 = .ok (.ireturn, 1) := by decide +kernel
theorem dX6_lay_68 : decode cX6_lay 68 = .ok (.aload_n 0, 1) := by decide +kernel
theorem dX6_lay_69 : decode cX6_lay 69 = .ok (.getfield 37, 3) := by decide +kernel
theorem dX6_lay_72 : decode cX6_lay 72 = .ok (.iload_n 1, 1) := by decide +kernel
theorem dX6_lay_73 : decode cX6_lay 73 = .ok (.aaload, 1) := by decide +kernel
theorem dX6_lay_74 : decode cX6_lay 74 = .ok (.astore 4, 2) := by decide +kernel
theorem dX6_lay_76 : decode cX6_lay 76 = .ok (.aload 4, 2) := by decide +kernel
theorem dX6_lay_78 : decode cX6_lay 78 = .ok (.getfield 284, 3) := by decide +kernel
theorem dX6_lay_81 : decode cX6_lay 81 = .ok (.istore 5, 2) := by decide +kernel
theorem dX6_lay_83 : decode cX6_lay 83 = .ok (.aload 4, 2) := by decide +kernel
theorem dX6_lay_85 : decode cX6_lay 85 = .ok (.iload_n 2, 1) := by decide +kernel
theorem dX6_lay_86 : decode cX6_lay 86 = .ok (.putfield 284, 3) := by decide +kernel
theorem dX6_lay_89 : decode cX6_lay 89 = .ok (.iload_n 2, 1) := by decide +kernel
theorem dX6_lay_90 : decode cX6_lay 90 = .ok (.iconst 1, 1) := by decide +kernel
theorem dX6_lay_91 : decode cX6_lay 91 = .ok (.if_icmp .ne 23, 3) := by decide +kernel
theorem dX6_lay_94 : decode cX6_lay 94 = .ok (.aload 4, 2) := by decide +kernel
theorem dX6_lay_96 : decode cX6_lay 96 = .ok (.getfield 287, 3) := by decide +kernel
theorem dX6_lay_99 : decode cX6_lay 99 = .ok (.aload_n 0, 1) := by decide +kernel
theorem dX6_lay_100 : decode cX6_lay 100 = .ok (.getfield 10, 3) := by decide +kernel
theorem dX6_lay_103 : decode cX6_lay 103 = .ok (.getfield 72, 3) := by decide +kernel
theorem dX6_lay_106 : decode cX6_lay 106 = .ok (.iload_n 3, 1) := by decide +kernel
theorem dX6_lay_107 : decode cX6_lay 107 = .ok (.aaload, 1) := by decide +kernel
theorem dX6_lay_108 : decode cX6_lay 108 = .ok (.invokevirtual 291, 3) := by decide +kernel
theorem dX6_lay_111 : decode cX6_lay 111 = .ok (.goto 31, 3) := by decide +kernel
theorem dX6_lay_114 : decode cX6_lay 114 = .ok (.iload_n 2, 1) := by decide +kernel
theorem dX6_lay_115 : decode cX6_lay 115 = .ok (.iconst 2, 1) := by decide +kernel
theorem dX6_lay_116 : decode cX6_lay 116 = .ok (.if_icmp .ne 20, 3) := by decide +kernel
theorem dX6_lay_119 : decode cX6_lay 119 = .ok (.aload 4, 2) := by decide +kernel
theorem dX6_lay_121 : decode cX6_lay 121 = .ok (.getfield 295, 3) := by decide +kernel
theorem dX6_lay_124 : decode cX6_lay 124 = .ok (.aload_n 0, 1) := by decide +kernel
theorem dX6_lay_125 : decode cX6_lay 125 = .ok (.getfield 31, 3) := by decide +kernel
theorem dX6_lay_128 : decode cX6_lay 128 = .ok (.iload_n 3, 1) := by decide +kernel
theorem dX6_lay_129 : decode cX6_lay 129 = .ok (.aaload, 1) := by decide +kernel
theorem dX6_lay_130 : decode cX6_lay 130 = .ok (.invokevirtual 299, 3) := by decide +kernel
theorem dX6_lay_133 : decode cX6_lay 133 = .ok (.goto 9, 3) := by decide +kernel
theorem dX6_lay_136 : decode cX6_lay 136 = .ok (.aload 4, 2) := by decide +kernel
theorem dX6_lay_138 : decode cX6_lay 138 = .ok (.iload_n 3, 1) := by decide +kernel
theorem dX6_lay_139 : decode cX6_lay 139 = .ok (.putfield 302, 3) := by decide +kernel
theorem dX6_lay_142 : decode cX6_lay 142 = .ok (.iload 5, 2) := by decide +kernel
theorem dX6_lay_144 : decode cX6_lay 144 = .ok (.ireturn, 1) := by decide +kernel
theorem dX6_ask_0 : decode cX6_ask 0 = .ok (.iload_n 1, 1) := by decide +kernel
theorem dX6_ask_1 : decode cX6_ask 1 = .ok (.invokestatic 281, 3) := by decide +kernel
theorem dX6_ask_4 : decode cX6_ask 4 = .ok (.ifCond .eq 10, 3) := by decide +kernel
theorem dX6_ask_7 : decode cX6_ask 7 = .ok (.iload_n 2, 1) := by decide +kernel
theorem dX6_ask_8 : decode cX6_ask 8 = .ok (.invokestatic 102, 3) := by decide +kernel
theorem dX6_ask_11 : decode cX6_ask 11 = .ok (.ifCond .ne 6, 3) := by decide +kernel
theorem dX6_ask_14 : decode cX6_ask 14 = .ok (.ldc 59, 2) := by decide +kernel
theorem dX6_ask_16 : decode cX6_ask 16 = .ok (.ireturn, 1) := by decide +kernel
theorem dX6_ask_17 : decode cX6_ask 17 = .ok (.aload_n 0, 1) := by decide +kernel
theorem dX6_ask_18 : decode cX6_ask 18 = .ok (.getfield 37, 3) := by decide +kernel
theorem dX6_ask_21 : decode cX6_ask 21 = .ok (.iload_n 1, 1) := by decide +kernel
theorem dX6_ask_22 : decode cX6_ask 22 = .ok (.aaload, 1) := by decide +kernel
theorem dX6_ask_23 : decode cX6_ask 23 = .ok (.astore_n 3, 1) := by decide +kernel
theorem dX6_ask_24 : decode cX6_ask 24 = .ok (.aload_n 3, 1) := by decide +kernel
theorem dX6_ask_25 : decode cX6_ask 25 = .ok (.getfield 284, 3) := by decide +kernel
theorem dX6_ask_28 : decode cX6_ask 28 = .ok (.ifCond .ne 6, 3) := by decide +kernel
theorem dX6_ask_31 : decode cX6_ask 31 = .ok (.ldc 197, 2) := by decide +kernel
theorem dX6_ask_33 : decode cX6_ask 33 = .ok (.ireturn, 1) := by decide +kernel
theorem dX6_ask_34 : decode cX6_ask 34 = .ok (.aload_n 3, 1) := by decide +kernel
theorem dX6_ask_35 : decode cX6_ask 35 = .ok (.getfield 284, 3) := by decide +kernel
theorem dX6_ask_38 : decode cX6_ask 38 = .ok (.iconst 1, 1) := by decide +kernel
theorem dX6_ask_39 : decode cX6_ask 39 = .ok (.if_icmp .ne 14, 3) := by decide +kernel
theorem dX6_ask_42 : decode cX6_ask 42 = .ok (.aload_n 3, 1) := by decide +kernel
theorem dX6_ask_43 : decode cX6_ask 43 = .ok (.getfield 287, 3) := by decide +kernel
theorem dX6_ask_46 : decode cX6_ask 46 = .ok (.iload_n 2, 1) := by decide +kernel
theorem dX6_ask_47 : decode cX6_ask 47 = .ok (.invokevirtual 105, 3) := by decide +kernel
theorem dX6_ask_50 : decode cX6_ask 50 = .ok (.ifCond .ne 6, 3) := by decide +kernel
theorem dX6_ask_53 : decode cX6_ask 53 = .ok (.ldc 111, 2) := by decide +kernel
theorem dX6_ask_55 : decode cX6_ask 55 = .ok (.ireturn, 1) := by decide +kernel
theorem dX6_ask_56 : decode cX6_ask 56 = .ok (.aload_n 3, 1) := by decide +kernel
theorem dX6_ask_57 : decode cX6_ask 57 = .ok (.getfield 287, 3) := by decide +kernel
theorem dX6_ask_60 : decode cX6_ask 60 = .ok (.invokevirtual 95, 3) := by decide +kernel
theorem dX6_ask_63 : decode cX6_ask 63 = .ok (.ireturn, 1) := by decide +kernel
theorem dX6_item_0 : decode cX6_item 0 = .ok (.iload_n 1, 1) := by decide +kernel
theorem dX6_item_1 : decode cX6_item 1 = .ok (.invokestatic 281, 3) := by decide +kernel
theorem dX6_item_4 : decode cX6_item 4 = .ok (.ifCond .ne 6, 3) := by decide +kernel
theorem dX6_item_7 : decode cX6_item 7 = .ok (.ldc 59, 2) := by decide +kernel
theorem dX6_item_9 : decode cX6_item 9 = .ok (.ireturn, 1) := by decide +kernel
theorem dX6_item_10 : decode cX6_item 10 = .ok (.aload_n 0, 1) := by decide +kernel
theorem dX6_item_11 : decode cX6_item 11 = .ok (.getfield 37, 3) := by decide +kernel
theorem dX6_item_14 : decode cX6_item 14 = .ok (.iload_n 1, 1) := by decide +kernel
theorem dX6_item_15 : decode cX6_item 15 = .ok (.aaload, 1) := by decide +kernel
theorem dX6_item_16 : decode cX6_item 16 = .ok (.astore_n 3, 1) := by decide +kernel
theorem dX6_item_17 : decode cX6_item 17 = .ok (.aload_n 3, 1) := by decide +kernel
theorem dX6_item_18 : decode cX6_item 18 = .ok (.getfield 284, 3) := by decide +kernel
theorem dX6_item_21 : decode cX6_item 21 = .ok (.ifCond .ne 6, 3) := by decide +kernel
theorem dX6_item_24 : decode cX6_item 24 = .ok (.ldc 197, 2) := by decide +kernel
theorem dX6_item_26 : decode cX6_item 26 = .ok (.ireturn, 1) := by decide +kernel
theorem dX6_item_27 : decode cX6_item 27 = .ok (.aload_n 3, 1) := by decide +kernel
theorem dX6_item_28 : decode cX6_item 28 = .ok (.getfield 284, 3) := by decide +kernel
theorem dX6_item_31 : decode cX6_item 31 = .ok (.iconst 2, 1) := by decide +kernel
theorem dX6_item_32 : decode cX6_item 32 = .ok (.if_icmp .eq 6, 3) := by decide +kernel
theorem dX6_item_35 : decode cX6_item 35 = .ok (.ldc 111, 2) := by decide +kernel
theorem dX6_item_37 : decode cX6_item 37 = .ok (.ireturn, 1) := by decide +kernel
theorem dX6_item_38 : decode cX6_item 38 = .ok (.aload_n 3, 1) := by decide +kernel
theorem dX6_item_39 : decode cX6_item 39 = .ok (.getfield 295, 3) := by decide +kernel
theorem dX6_item_42 : decode cX6_item 42 = .ok (.iload_n 2, 1) := by decide +kernel
theorem dX6_item_43 : decode cX6_item 43 = .ok (.invokevirtual 256, 3) := by decide +kernel
theorem dX6_item_46 : decode cX6_item 46 = .ok (.ifCond .ne 7, 3) := by decide +kernel
theorem dX6_item_49 : decode cX6_item 49 = .ok (.ldc_w 259, 3) := by decide +kernel
theorem dX6_item_52 : decode cX6_item 52 = .ok (.ireturn, 1) := by decide +kernel
theorem dX6_item_53 : decode cX6_item 53 = .ok (.aload_n 3, 1) := by decide +kernel
theorem dX6_item_54 : decode cX6_item 54 = .ok (.getfield 295, 3) := by decide +kernel
theorem dX6_item_57 : decode cX6_item 57 = .ok (.iload_n 2, 1) := by decide +kernel
theorem dX6_item_58 : decode cX6_item 58 = .ok (.invokevirtual 269, 3) := by decide +kernel
theorem dX6_item_61 : decode cX6_item 61 = .ok (.ifCond .eq 15, 3) := by decide +kernel
theorem dX6_item_64 : decode cX6_item 64 = .ok (.aload_n 3, 1) := by decide +kernel
theorem dX6_item_65 : decode cX6_item 65 = .ok (.getfield 295, 3) := by decide +kernel
theorem dX6_item_68 : decode cX6_item 68 = .ok (.getfield 260, 3) := by decide +kernel
theorem dX6_item_71 : decode cX6_item 71 = .ok (.iload_n 2, 1) := by decide +kernel
theorem dX6_item_72 : decode cX6_item 72 = .ok (.iaload, 1) := by decide +kernel
theorem dX6_item_73 : decode cX6_item 73 = .ok (.goto 5, 3) := by decide +kernel
theorem dX6_item_76 : decode cX6_item 76 = .ok (.ldc 111, 2) := by decide +kernel
theorem dX6_item_78 : decode cX6_item 78 = .ok (.ireturn, 1) := by decide +kernel
theorem dX6_rest_0 : decode cX6_rest 0 = .ok (.iload_n 1, 1) := by decide +kernel
theorem dX6_rest_1 : decode cX6_rest 1 = .ok (.invokestatic 281, 3) := by decide +kernel
theorem dX6_rest_4 : decode cX6_rest 4 = .ok (.ifCond .ne 6, 3) := by decide +kernel
theorem dX6_rest_7 : decode cX6_rest 7 = .ok (.ldc 59, 2) := by decide +kernel
theorem dX6_rest_9 : decode cX6_rest 9 = .ok (.ireturn, 1) := by decide +kernel
theorem dX6_rest_10 : decode cX6_rest 10 = .ok (.aload_n 0, 1) := by decide +kernel
theorem dX6_rest_11 : decode cX6_rest 11 = .ok (.getfield 37, 3) := by decide +kernel
theorem dX6_rest_14 : decode cX6_rest 14 = .ok (.iload_n 1, 1) := by decide +kernel
theorem dX6_rest_15 : decode cX6_rest 15 = .ok (.aaload, 1) := by decide +kernel
theorem dX6_rest_16 : decode cX6_rest 16 = .ok (.astore_n 3, 1) := by decide +kernel
theorem dX6_rest_17 : decode cX6_rest 17 = .ok (.aload_n 3, 1) := by decide +kernel
theorem dX6_rest_18 : decode cX6_rest 18 = .ok (.getfield 284, 3) := by decide +kernel
theorem dX6_rest_21 : decode cX6_rest 21 = .ok (.ifCond .ne 6, 3) := by decide +kernel
theorem dX6_rest_24 : decode cX6_rest 24 = .ok (.ldc 197, 2) := by decide +kernel
theorem dX6_rest_26 : decode cX6_rest 26 = .ok (.ireturn, 1) := by decide +kernel
theorem dX6_rest_27 : decode cX6_rest 27 = .ok (.aload_n 3, 1) := by decide +kernel
theorem dX6_rest_28 : decode cX6_rest 28 = .ok (.getfield 284, 3) := by decide +kernel
theorem dX6_rest_31 : decode cX6_rest 31 = .ok (.iconst 3, 1) := by decide +kernel
theorem dX6_rest_32 : decode cX6_rest 32 = .ok (.if_icmp .eq 6, 3) := by decide +kernel
theorem dX6_rest_35 : decode cX6_rest 35 = .ok (.ldc 111, 2) := by decide +kernel
theorem dX6_rest_37 : decode cX6_rest 37 = .ok (.ireturn, 1) := by decide +kernel
theorem dX6_rest_38 : decode cX6_rest 38 = .ok (.iload_n 2, 1) := by decide +kernel
theorem dX6_rest_39 : decode cX6_rest 39 = .ok (.ifCond .ne 8, 3) := by decide +kernel
theorem dX6_rest_42 : decode cX6_rest 42 = .ok (.ldc 119, 2) := by decide +kernel
theorem dX6_rest_44 : decode cX6_rest 44 = .ok (.goto 9, 3) := by decide +kernel
theorem dX6_rest_47 : decode cX6_rest 47 = .ok (.aload_n 3, 1) := by decide +kernel
theorem dX6_rest_48 : decode cX6_rest 48 = .ok (.getfield 302, 3) := by decide +kernel
theorem dX6_rest_51 : decode cX6_rest 51 = .ok (.iload_n 2, 1) := by decide +kernel
theorem dX6_rest_52 : decode cX6_rest 52 = .ok (.irem, 1) := by decide +kernel
theorem dX6_rest_53 : decode cX6_rest 53 = .ok (.ireturn, 1) := by decide +kernel
theorem dX6_tell_0 : decode cX6_tell 0 = .ok (.aload_n 0, 1) := by decide +kernel
theorem dX6_tell_1 : decode cX6_tell 1 = .ok (.getfield 45, 3) := by decide +kernel
theorem dX6_tell_4 : decode cX6_tell 4 = .ok (.bipush 60, 2) := by decide +kernel
theorem dX6_tell_6 : decode cX6_tell 6 = .ok (.if_icmp .lt 6, 3) := by decide +kernel
theorem dX6_tell_9 : decode cX6_tell 9 = .ok (.ldc 63, 2) := by decide +kernel
theorem dX6_tell_11 : decode cX6_tell 11 = .ok (.ireturn, 1) := by decide +kernel
theorem dX6_tell_12 : decode cX6_tell 12 = .ok (.aload_n 0, 1) := by decide +kernel
theorem dX6_tell_13 : decode cX6_tell 13 = .ok (.getfield 41, 3) := by decide +kernel
theorem dX6_tell_16 : decode cX6_tell 16 = .ok (.aload_n 0, 1) := by decide +kernel
theorem dX6_tell_17 : decode cX6_tell 17 = .ok (.getfield 45, 3) := by decide +kernel
theorem dX6_tell_20 : decode cX6_tell 20 = .ok (.iload_n 1, 1) := by decide +kernel
theorem dX6_tell_21 : decode cX6_tell 21 = .ok (.iastore, 1) := by decide +kernel
theorem dX6_tell_22 : decode cX6_tell 22 = .ok (.aload_n 0, 1) := by decide +kernel
theorem dX6_tell_23 : decode cX6_tell 23 = .ok (.dup, 1) := by decide +kernel
theorem dX6_tell_24 : decode cX6_tell 24 = .ok (.getfield 45, 3) := by decide +kernel
theorem dX6_tell_27 : decode cX6_tell 27 = .ok (.iconst 1, 1) := by decide +kernel
theorem dX6_tell_28 : decode cX6_tell 28 = .ok (.iadd, 1) := by decide +kernel
theorem dX6_tell_29 : decode cX6_tell 29 = .ok (.putfield 45, 3) := by decide +kernel
theorem dX6_tell_32 : decode cX6_tell 32 = .ok (.aload_n 0, 1) := by decide +kernel
theorem dX6_tell_33 : decode cX6_tell 33 = .ok (.getfield 45, 3) := by decide +kernel
theorem dX6_tell_36 : decode cX6_tell 36 = .ok (.ireturn, 1) := by decide +kernel
theorem dX6_check_0 : decode cX6_check 0 = .ok (.aload_n 0, 1) := by decide +kernel
theorem dX6_check_1 : decode cX6_check 1 = .ok (.getfield 45, 3) := by decide +kernel
theorem dX6_check_4 : decode cX6_check 4 = .ok (.istore_n 2, 1) := by decide +kernel
theorem dX6_check_5 : decode cX6_check 5 = .ok (.aload_n 0, 1) := by decide +kernel
theorem dX6_check_6 : decode cX6_check 6 = .ok (.iconst 0, 1) := by decide +kernel
theorem dX6_check_7 : decode cX6_check 7 = .ok (.putfield 45, 3) := by decide +kernel
theorem dX6_check_10 : decode cX6_check 10 = .ok (.iload_n 1, 1) := by decide +kernel
theorem dX6_check_11 : decode cX6_check 11 = .ok (.iconst 1, 1) := by decide +kernel
theorem dX6_check_12 : decode cX6_check 12 = .ok (.if_icmp .lt 9, 3) := by decide +kernel
theorem dX6_check_15 : decode cX6_check 15 = .ok (.iload_n 1, 1) := by decide +kernel
theorem dX6_check_16 : decode cX6_check 16 = .ok (.bipush 30, 2) := by decide +kernel
theorem dX6_check_18 : decode cX6_check 18 = .ok (.if_icmp .le 6, 3) := by decide +kernel
theorem dX6_check_21 : decode cX6_check 21 = .ok (.ldc 59, 2) := by decide +kernel
theorem dX6_check_23 : decode cX6_check 23 = .ok (.ireturn, 1) := by decide +kernel
theorem dX6_check_24 : decode cX6_check 24 = .ok (.aload_n 0, 1) := by decide +kernel
theorem dX6_check_25 : decode cX6_check 25 = .ok (.getfield 49, 3) := by decide +kernel
theorem dX6_check_28 : decode cX6_check 28 = .ok (.ifCond .ne 6, 3) := by decide +kernel
theorem dX6_check_31 : decode cX6_check 31 = .ok (.ldc 119, 2) := by decide +kernel
theorem dX6_check_33 : decode cX6_check 33 = .ok (.ireturn, 1) := by decide +kernel
theorem dX6_check_34 : decode cX6_check 34 = .ok (.iconst 2, 1) := by decide +kernel
theorem dX6_check_35 : decode cX6_check 35 = .ok (.iload_n 1, 1) := by decide +kernel
theorem dX6_check_36 : decode cX6_check 36 = .ok (.sipush 9999, 3) := by decide +kernel
theorem dX6_check_39 : decode cX6_check 39 = .ok (.aload_n 0, 1) := by decide +kernel
theorem dX6_check_40 : decode cX6_check 40 = .ok (.getfield 16, 3) := by decide +kernel
theorem dX6_check_43 : decode cX6_check 43 = .ok (.getfield 144, 3) := by decide +kernel
theorem dX6_check_46 : decode cX6_check 46 = .ok (.isub, 1) := by decide +kernel
theorem dX6_check_47 : decode cX6_check 47 = .ok (.invokestatic 132, 3) := by decide +kernel
theorem dX6_check_50 : decode cX6_check 50 = .ok (.imul, 1) := by decide +kernel
theorem dX6_check_51 : decode cX6_check 51 = .ok (.istore_n 3, 1) := by decide +kernel
theorem dX6_check_52 : decode cX6_check 52 = .ok (.aload_n 0, 1) := by decide +kernel
theorem dX6_check_53 : decode cX6_check 53 = .ok (.aload_n 0, 1) := by decide +kernel
theorem dX6_check_54 : decode cX6_check 54 = .ok (.getfield 16, 3) := by decide +kernel
theorem dX6_check_57 : decode cX6_check 57 = .ok (.invokevirtual 166, 3) := by decide +kernel
theorem dX6_check_60 : decode cX6_check 60 = .ok (.pop, 1) := by decide +kernel
theorem dX6_check_61 : decode cX6_check 61 = .ok (.iconst 0, 1) := by decide +kernel
theorem dX6_check_62 : decode cX6_check 62 = .ok (.istore 4, 2) := by decide +kernel
theorem dX6_check_64 : decode cX6_check 64 = .ok (.iload 4, 2) := by decide +kernel
theorem dX6_check_66 : decode cX6_check 66 = .ok (.iload_n 3, 1) := by decide +kernel
theorem dX6_check_67 : decode cX6_check 67 = .ok (.if_icmp .ge 73, 3) := by decide +kernel
theorem dX6_check_70 : decode cX6_check 70 = .ok (.iload 4, 2) := by decide +kernel
theorem dX6_check_72 : decode cX6_check 72 = .ok (.iconst 2, 1) := by decide +kernel
theorem dX6_check_73 : decode cX6_check 73 = .ok (.irem, 1) := by decide +kernel
theorem dX6_check_74 : decode cX6_check 74 = .ok (.ifCond .ne 11, 3) := by decide +kernel
theorem dX6_check_77 : decode cX6_check 77 = .ok (.aload_n 0, 1) := by decide +kernel
theorem dX6_check_78 : decode cX6_check 78 = .ok (.getfield 19, 3) := by decide +kernel
theorem dX6_check_81 : decode cX6_check 81 = .ok (.iconst 1, 1) := by decide +kernel
theorem dX6_check_82 : decode cX6_check 82 = .ok (.invokevirtual 147, 3) := by decide +kernel
theorem dX6_check_85 : decode cX6_check 85 = .ok (.iload 4, 2) := by decide +kernel
theorem dX6_check_87 : decode cX6_check 87 = .ok (.iconst 2, 1) := by decide +kernel
theorem dX6_check_88 : decode cX6_check 88 = .ok (.irem, 1) := by decide +kernel
theorem dX6_check_89 : decode cX6_check 89 = .ok (.ifCond .ne 13, 3) := by decide +kernel
theorem dX6_check_92 : decode cX6_check 92 = .ok (.aload_n 0, 1) := by decide +kernel
theorem dX6_check_93 : decode cX6_check 93 = .ok (.getfield 19, 3) := by decide +kernel
theorem dX6_check_96 : decode cX6_check 96 = .ok (.invokevirtual 123, 3) := by decide +kernel
theorem dX6_check_99 : decode cX6_check 99 = .ok (.goto 10, 3) := by decide +kernel
theorem dX6_check_102 : decode cX6_check 102 = .ok (.aload_n 0, 1) := by decide +kernel
theorem dX6_check_103 : decode cX6_check 103 = .ok (.getfield 19, 3) := by decide +kernel
theorem dX6_check_106 : decode cX6_check 106 = .ok (.invokevirtual 157, 3) := by decide +kernel
theorem dX6_check_109 : decode cX6_check 109 = .ok (.istore 5, 2) := by decide +kernel
theorem dX6_check_111 : decode cX6_check 111 = .ok (.iload 4, 2) := by decide +kernel
theorem dX6_check_113 : decode cX6_check 113 = .ok (.iload_n 2, 1) := by decide +kernel
theorem dX6_check_114 : decode cX6_check 114 = .ok (.if_icmp .ge 15, 3) := by decide +kernel
theorem dX6_check_117 : decode cX6_check 117 = .ok (.aload_n 0, 1) := by decide +kernel
theorem dX6_check_118 : decode cX6_check 118 = .ok (.getfield 41, 3) := by decide +kernel
theorem dX6_check_121 : decode cX6_check 121 = .ok (.iload 4, 2) := by decide +kernel
theorem dX6_check_123 : decode cX6_check 123 = .ok (.iaload, 1) := by decide +kernel
theorem dX6_check_124 : decode cX6_check 124 = .ok (.iload 5, 2) := by decide +kernel
theorem dX6_check_126 : decode cX6_check 126 = .ok (.if_icmp .eq 8, 3) := by decide +kernel
theorem dX6_check_129 : decode cX6_check 129 = .ok (.iconst 1, 1) := by decide +kernel
theorem dX6_check_130 : decode cX6_check 130 = .ok (.iload 4, 2) := by decide +kernel
theorem dX6_check_132 : decode cX6_check 132 = .ok (.iadd, 1) := by decide +kernel
theorem dX6_check_133 : decode cX6_check 133 = .ok (.ireturn, 1) := by decide +kernel
theorem dX6_check_134 : decode cX6_check 134 = .ok (.iinc 4 1, 3) := by decide +kernel
theorem dX6_check_137 : decode cX6_check 137 = .ok (.goto (-73), 3) := by decide +kernel
theorem dX6_check_140 : decode cX6_check 140 = .ok (.iload_n 2, 1) := by decide +kernel
theorem dX6_check_141 : decode cX6_check 141 = .ok (.iload_n 3, 1) := by decide +kernel
theorem dX6_check_142 : decode cX6_check 142 = .ok (.if_icmp .le 9, 3) := by decide +kernel
theorem dX6_check_145 : decode cX6_check 145 = .ok (.iconst 1, 1) := by decide +kernel
theorem dX6_check_146 : decode cX6_check 146 = .ok (.iload_n 3, 1) := by decide +kernel
theorem dX6_check_147 : decode cX6_check 147 = .ok (.iadd, 1) := by decide +kernel
theorem dX6_check_148 : decode cX6_check 148 = .ok (.goto 4, 3) := by decide +kernel
theorem dX6_check_151 : decode cX6_check 151 = .ok (.iconst 0, 1) := by decide +kernel
theorem dX6_check_152 : decode cX6_check 152 = .ok (.ireturn, 1) := by decide +kernel
theorem dX6_keep_0 : decode cX6_keep 0 = .ok (.aload_n 0, 1) := by decide +kernel
theorem dX6_keep_1 : decode cX6_keep 1 = .ok (.getfield 16, 3) := by decide +kernel
theorem dX6_keep_4 : decode cX6_keep 4 = .ok (.aload_n 0, 1) := by decide +kernel
theorem dX6_keep_5 : decode cX6_keep 5 = .ok (.getfield 10, 3) := by decide +kernel
theorem dX6_keep_8 : decode cX6_keep 8 = .ok (.invokevirtual 303, 3) := by decide +kernel
theorem dX6_keep_11 : decode cX6_keep 11 = .ok (.aload_n 0, 1) := by decide +kernel
theorem dX6_keep_12 : decode cX6_keep 12 = .ok (.iconst 1, 1) := by decide +kernel
theorem dX6_keep_13 : decode cX6_keep 13 = .ok (.putfield 49, 3) := by decide +kernel
theorem dX6_keep_16 : decode cX6_keep 16 = .ok (.aload_n 0, 1) := by decide +kernel
theorem dX6_keep_17 : decode cX6_keep 17 = .ok (.getfield 10, 3) := by decide +kernel
theorem dX6_keep_20 : decode cX6_keep 20 = .ok (.getfield 60, 3) := by decide +kernel
theorem dX6_keep_23 : decode cX6_keep 23 = .ok (.ireturn, 1) := by decide +kernel
theorem dX6_back_0 : decode cX6_back 0 = .ok (.aload_n 0, 1) := by decide +kernel
theorem dX6_back_1 : decode cX6_back 1 = .ok (.getfield 49, 3) := by decide +kernel
theorem dX6_back_4 : decode cX6_back 4 = .ok (.ifCond .ne 6, 3) := by decide +kernel
theorem dX6_back_7 : decode cX6_back 7 = .ok (.ldc 119, 2) := by decide +kernel
theorem dX6_back_9 : decode cX6_back 9 = .ok (.ireturn, 1) := by decide +kernel
theorem dX6_back_10 : decode cX6_back 10 = .ok (.aload_n 0, 1) := by decide +kernel
theorem dX6_back_11 : decode cX6_back 11 = .ok (.getfield 10, 3) := by decide +kernel
theorem dX6_back_14 : decode cX6_back 14 = .ok (.aload_n 0, 1) := by decide +kernel
theorem dX6_back_15 : decode cX6_back 15 = .ok (.getfield 16, 3) := by decide +kernel
theorem dX6_back_18 : decode cX6_back 18 = .ok (.invokevirtual 303, 3) := by decide +kernel
theorem dX6_back_21 : decode cX6_back 21 = .ok (.aload_n 0, 1) := by decide +kernel
theorem dX6_back_22 : decode cX6_back 22 = .ok (.getfield 10, 3) := by decide +kernel
theorem dX6_back_25 : decode cX6_back 25 = .ok (.getfield 60, 3) := by decide +kernel
theorem dX6_back_28 : decode cX6_back 28 = .ok (.ireturn, 1) := by decide +kernel
theorem dX6_count_0 : decode cX6_count 0 = .ok (.iload_n 1, 1) := by decide +kernel
theorem dX6_count_1 : decode cX6_count 1 = .ok (.tableswitch 108 0 7 #[47, 55, 63, 71, 79, 87, 92, 100], 47) := by decide +kernel
theorem dX6_count_48 : decode cX6_count 48 = .ok (.aload_n 0, 1) := by decide +kernel
theorem dX6_count_49 : decode cX6_count 49 = .ok (.getfield 10, 3) := by decide +kernel
theorem dX6_count_52 : decode cX6_count 52 = .ok (.getfield 60, 3) := by decide +kernel
theorem dX6_count_55 : decode cX6_count 55 = .ok (.ireturn, 1) := by decide +kernel
theorem dX6_count_56 : decode cX6_count 56 = .ok (.aload_n 0, 1) := by decide +kernel
theorem dX6_count_57 : decode cX6_count 57 = .ok (.getfield 10, 3) := by decide +kernel
theorem dX6_count_60 : decode cX6_count 60 = .ok (.invokevirtual 123, 3) := by decide +kernel
theorem dX6_count_63 : decode cX6_count 63 = .ok (.ireturn, 1) := by decide +kernel
theorem dX6_count_64 : decode cX6_count 64 = .ok (.aload_n 0, 1) := by decide +kernel
theorem dX6_count_65 : decode cX6_count 65 = .ok (.getfield 10, 3) := by decide +kernel
theorem dX6_count_68 : decode cX6_count 68 = .ok (.getfield 144, 3) := by decide +kernel
theorem dX6_count_71 : decode cX6_count 71 = .ok (.ireturn, 1) := by decide +kernel
theorem dX6_count_72 : decode cX6_count 72 = .ok (.aload_n 0, 1) := by decide +kernel
theorem dX6_count_73 : decode cX6_count 73 = .ok (.getfield 10, 3) := by decide +kernel
theorem dX6_count_76 : decode cX6_count 76 = .ok (.getfield 129, 3) := by decide +kernel
theorem dX6_count_79 : decode cX6_count 79 = .ok (.ireturn, 1) := by decide +kernel
theorem dX6_count_80 : decode cX6_count 80 = .ok (.aload_n 0, 1) := by decide +kernel
theorem dX6_count_81 : decode cX6_count 81 = .ok (.getfield 10, 3) := by decide +kernel
theorem dX6_count_84 : decode cX6_count 84 = .ok (.getfield 229, 3) := by decide +kernel
theorem dX6_count_87 : decode cX6_count 87 = .ok (.ireturn, 1) := by decide +kernel
theorem dX6_count_88 : decode cX6_count 88 = .ok (.aload_n 0, 1) := by decide +kernel
theorem dX6_count_89 : decode cX6_count 89 = .ok (.getfield 45, 3) := by decide +kernel
theorem dX6_count_92 : decode cX6_count 92 = .ok (.ireturn, 1) := by decide +kernel
theorem dX6_count_93 : decode cX6_count 93 = .ok (.aload_n 0, 1) := by decide +kernel
theorem dX6_count_94 : decode cX6_count 94 = .ok (.getfield 25, 3) := by decide +kernel
theorem dX6_count_97 : decode cX6_count 97 = .ok (.getfield 218, 3) := by decide +kernel
theorem dX6_count_100 : decode cX6_count 100 = .ok (.ireturn, 1) := by decide +kernel
theorem dX6_count_101 : decode cX6_count 101 = .ok (.aload_n 0, 1) := by decide +kernel
theorem dX6_count_102 : decode cX6_count 102 = .ok (.getfield 10, 3) := by decide +kernel
theorem dX6_count_105 : decode cX6_count 105 = .ok (.getfield 141, 3) := by decide +kernel
theorem dX6_count_108 : decode cX6_count 108 = .ok (.ireturn, 1) := by decide +kernel
theorem dX6_count_109 : decode cX6_count 109 = .ok (.ldc 59, 2) := by decide +kernel
theorem dX6_count_111 : decode cX6_count 111 = .ok (.ireturn, 1) := by decide +kernel
theorem dX6_fits_0 : decode cX6_fits 0 = .ok (.iload_n 1, 1) := by decide +kernel
theorem dX6_fits_1 : decode cX6_fits 1 = .ok (.getstatic 306, 3) := by decide +kernel
theorem dX6_fits_4 : decode cX6_fits 4 = .ok (.iload_n 0, 1) := by decide +kernel
theorem dX6_fits_5 : decode cX6_fits 5 = .ok (.iaload, 1) := by decide +kernel
theorem dX6_fits_6 : decode cX6_fits 6 = .ok (.if_icmp .lt 16, 3) := by decide +kernel
theorem dX6_fits_9 : decode cX6_fits 9 = .ok (.iload_n 1, 1) := by decide +kernel
theorem dX6_fits_10 : decode cX6_fits 10 = .ok (.getstatic 181, 3) := by decide +kernel
theorem dX6_fits_13 : decode cX6_fits 13 = .ok (.iload_n 0, 1) := by decide +kernel
theorem dX6_fits_14 : decode cX6_fits 14 = .ok (.iaload, 1) := by decide +kernel
theorem dX6_fits_15 : decode cX6_fits 15 = .ok (.if_icmp .gt 7, 3) := by decide +kernel
theorem dX6_fits_18 : decode cX6_fits 18 = .ok (.iconst 1, 1) := by decide +kernel
theorem dX6_fits_19 : decode cX6_fits 19 = .ok (.goto 4, 3) := by decide +kernel
theorem dX6_fits_22 : decode cX6_fits 22 = .ok (.iconst 0, 1) := by decide +kernel
theorem dX6_fits_23 : decode cX6_fits 23 = .ok (.ireturn, 1) := by decide +kernel
theorem dX6_isHouse_0 : decode cX6_isHouse 0 = .ok (.iload_n 1, 1) := by decide +kernel
theorem dX6_isHouse_1 : decode cX6_isHouse 1 = .ok (.ifCond .lt 18, 3) := by decide +kernel
theorem dX6_isHouse_4 : decode cX6_isHouse 4 = .ok (.iload_n 1, 1) := by decide +kernel
theorem dX6_isHouse_5 : decode cX6_isHouse 5 = .ok (.aload_n 0, 1) := by decide +kernel
theorem dX6_isHouse_6 : decode cX6_isHouse 6 = .ok (.getfield 10, 3) := by decide +kernel
theorem dX6_isHouse_9 : decode cX6_isHouse 9 = .ok (.getfield 60, 3) := by decide +kernel
theorem dX6_isHouse_12 : decode cX6_isHouse 12 = .ok (.if_icmp .ge 7, 3) := by decide +kernel
theorem dX6_isHouse_15 : decode cX6_isHouse 15 = .ok (.iconst 1, 1) := by decide +kernel
theorem dX6_isHouse_16 : decode cX6_isHouse 16 = .ok (.goto 4, 3) := by decide +kernel
theorem dX6_isHouse_19 : decode cX6_isHouse 19 = .ok (.iconst 0, 1) := by decide +kernel
theorem dX6_isHouse_20 : decode cX6_isHouse 20 = .ok (.ireturn, 1) := by decide +kernel
theorem dX6_isKind_0 : decode cX6_isKind 0 = .ok (.iload_n 0, 1) := by decide +kernel
theorem dX6_isKind_1 : decode cX6_isKind 1 = .ok (.ifCond .lt 13, 3) := by decide +kernel
theorem dX6_isKind_4 : decode cX6_isKind 4 = .ok (.iload_n 0, 1) := by decide +kernel
theorem dX6_isKind_5 : decode cX6_isKind 5 = .ok (.bipush 6, 2) := by decide +kernel
theorem dX6_isKind_7 : decode cX6_isKind 7 = .ok (.if_icmp .ge 7, 3) := by decide +kernel
theorem dX6_isKind_10 : decode cX6_isKind 10 = .ok (.iconst 1, 1) := by decide +kernel
theorem dX6_isKind_11 : decode cX6_isKind 11 = .ok (.goto 4, 3) := by decide +kernel
theorem dX6_isKind_14 : decode cX6_isKind 14 = .ok (.iconst 0, 1) := by decide +kernel
theorem dX6_isKind_15 : decode cX6_isKind 15 = .ok (.ireturn, 1) := by decide +kernel
theorem dX6_isSheet_0 : decode cX6_isSheet 0 = .ok (.iload_n 0, 1) := by decide +kernel
theorem dX6_isSheet_1 : decode cX6_isSheet 1 = .ok (.ifCond .lt 12, 3) := by decide +kernel
theorem dX6_isSheet_4 : decode cX6_isSheet 4 = .ok (.iload_n 0, 1) := by decide +kernel
theorem dX6_isSheet_5 : decode cX6_isSheet 5 = .ok (.iconst 4, 1) := by decide +kernel
theorem dX6_isSheet_6 : decode cX6_isSheet 6 = .ok (.if_icmp .ge 7, 3) := by decide +kernel
theorem dX6_isSheet_9 : decode cX6_isSheet 9 = .ok (.iconst 1, 1) := by decide +kernel
theorem dX6_isSheet_10 : decode cX6_isSheet 10 = .ok (.goto 4, 3) := by decide +kernel
theorem dX6_isSheet_13 : decode cX6_isSheet 13 = .ok (.iconst 0, 1) := by decide +kernel
theorem dX6_isSheet_14 : decode cX6_isSheet 14 = .ok (.ireturn, 1) := by decide +kernel
theorem dX6_isSlot_0 : decode cX6_isSlot 0 = .ok (.iload_n 0, 1) := by decide +kernel
theorem dX6_isSlot_1 : decode cX6_isSlot 1 = .ok (.ifCond .lt 12, 3) := by decide +kernel
theorem dX6_isSlot_4 : decode cX6_isSlot 4 = .ok (.iload_n 0, 1) := by decide +kernel
theorem dX6_isSlot_5 : decode cX6_isSlot 5 = .ok (.iconst 5, 1) := by decide +kernel
theorem dX6_isSlot_6 : decode cX6_isSlot 6 = .ok (.if_icmp .ge 7, 3) := by decide +kernel
theorem dX6_isSlot_9 : decode cX6_isSlot 9 = .ok (.iconst 1, 1) := by decide +kernel
theorem dX6_isSlot_10 : decode cX6_isSlot 10 = .ok (.goto 4, 3) := by decide +kernel
theorem dX6_isSlot_13 : decode cX6_isSlot 13 = .ok (.iconst 0, 1) := by decide +kernel
theorem dX6_isSlot_14 : decode cX6_isSlot 14 = .ok (.ireturn, 1) := by decide +kernel
theorem dX6_thinkOf_0 : decode cX6_thinkOf 0 = .ok (.aload_n 0, 1) := by decide +kernel
theorem dX6_thinkOf_1 : decode cX6_thinkOf 1 = .ok (.getfield 19, 3) := by decide +kernel
theorem dX6_thinkOf_4 : decode cX6_thinkOf 4 = .ok (.aload_n 1, 1) := by decide +kernel
theorem dX6_thinkOf_5 : decode cX6_thinkOf 5 = .ok (.invokevirtual 303, 3) := by decide +kernel
theorem dX6_thinkOf_8 : decode cX6_thinkOf 8 = .ok (.aload_n 0, 1) := by decide +kernel
theorem dX6_thinkOf_9 : decode cX6_thinkOf 9 = .ok (.getfield 19, 3) := by decide +kernel
theorem dX6_thinkOf_12 : decode cX6_thinkOf 12 = .ok (.areturn, 1) := by decide +kernel
theorem dX6_thinkWithoutWall_0 : decode cX6_thinkWithoutWall 0 = .ok (.aload_n 0, 1) := by decide +kernel
theorem dX6_thinkWithoutWall_1 : decode cX6_thinkWithoutWall 1 = .ok (.aload_n 0, 1) := by decide +kernel
theorem dX6_thinkWithoutWall_2 : decode cX6_thinkWithoutWall 2 = .ok (.getfield 10, 3) := by decide +kernel
theorem dX6_thinkWithoutWall_5 : decode cX6_thinkWithoutWall 5 = .ok (.invokevirtual 166, 3) := by decide +kernel
theorem dX6_thinkWithoutWall_8 : decode cX6_thinkWithoutWall 8 = .ok (.getfield 72, 3) := by decide +kernel
theorem dX6_thinkWithoutWall_11 : decode cX6_thinkWithoutWall 11 = .ok (.iload_n 1, 1) := by decide +kernel
theorem dX6_thinkWithoutWall_12 : decode cX6_thinkWithoutWall 12 = .ok (.aaload, 1) := by decide +kernel
theorem dX6_thinkWithoutWall_13 : decode cX6_thinkWithoutWall 13 = .ok (.iconst 0, 1) := by decide +kernel
theorem dX6_thinkWithoutWall_14 : decode cX6_thinkWithoutWall 14 = .ok (.putfield 108, 3) := by decide +kernel
theorem dX6_thinkWithoutWall_17 : decode cX6_thinkWithoutWall 17 = .ok (.aload_n 0, 1) := by decide +kernel
theorem dX6_thinkWithoutWall_18 : decode cX6_thinkWithoutWall 18 = .ok (.getfield 19, 3) := by decide +kernel
theorem dX6_thinkWithoutWall_21 : decode cX6_thinkWithoutWall 21 = .ok (.iload_n 2, 1) := by decide +kernel
theorem dX6_thinkWithoutWall_22 : decode cX6_thinkWithoutWall 22 = .ok (.invokevirtual 147, 3) := by decide +kernel
theorem dX6_thinkWithoutWall_25 : decode cX6_thinkWithoutWall 25 = .ok (.return_, 1) := by decide +kernel
theorem dX6_isEnough_0 : decode cX6_isEnough 0 = .ok (.aload_n 0, 1) := by decide +kernel
theorem dX6_isEnough_1 : decode cX6_isEnough 1 = .ok (.getfield 10, 3) := by decide +kernel
theorem dX6_isEnough_4 : decode cX6_isEnough 4 = .ok (.getfield 72, 3) := by decide +kernel
theorem dX6_isEnough_7 : decode cX6_isEnough 7 = .ok (.iload_n 1, 1) := by decide +kernel
theorem dX6_isEnough_8 : decode cX6_isEnough 8 = .ok (.aaload, 1) := by decide +kernel
theorem dX6_isEnough_9 : decode cX6_isEnough 9 = .ok (.getfield 215, 3) := by decide +kernel
theorem dX6_isEnough_12 : decode cX6_isEnough 12 = .ok (.iload_n 2, 1) := by decide +kernel
theorem dX6_isEnough_13 : decode cX6_isEnough 13 = .ok (.iadd, 1) := by decide +kernel
theorem dX6_isEnough_14 : decode cX6_isEnough 14 = .ok (.getstatic 181, 3) := by decide +kernel
theorem dX6_isEnough_17 : decode cX6_isEnough 17 = .ok (.iconst 5, 1) := by decide +kernel
theorem dX6_isEnough_18 : decode cX6_isEnough 18 = .ok (.iaload, 1) := by decide +kernel
theorem dX6_isEnough_19 : decode cX6_isEnough 19 = .ok (.if_icmp .le 5, 3) := by decide +kernel
theorem dX6_isEnough_22 : decode cX6_isEnough 22 = .ok (.iconst 0, 1) := by decide +kernel
theorem dX6_isEnough_23 : decode cX6_isEnough 23 = .ok (.ireturn, 1) := by decide +kernel
theorem dX6_isEnough_24 : decode cX6_isEnough 24 = .ok (.aload_n 0, 1) := by decide +kernel
theorem dX6_isEnough_25 : decode cX6_isEnough 25 = .ok (.aload_n 0, 1) := by decide +kernel
theorem dX6_isEnough_26 : decode cX6_isEnough 26 = .ok (.getfield 10, 3) := by decide +kernel
theorem dX6_isEnough_29 : decode cX6_isEnough 29 = .ok (.invokevirtual 166, 3) := by decide +kernel
theorem dX6_isEnough_32 : decode cX6_isEnough 32 = .ok (.getfield 72, 3) := by decide +kernel
theorem dX6_isEnough_35 : decode cX6_isEnough 35 = .ok (.iload_n 1, 1) := by decide +kernel
theorem dX6_isEnough_36 : decode cX6_isEnough 36 = .ok (.aaload, 1) := by decide +kernel
theorem dX6_isEnough_37 : decode cX6_isEnough 37 = .ok (.dup, 1) := by decide +kernel
theorem dX6_isEnough_38 : decode cX6_isEnough 38 = .ok (.getfield 215, 3) := by decide +kernel
theorem dX6_isEnough_41 : decode cX6_isEnough 41 = .ok (.iload_n 2, 1) := by decide +kernel
theorem dX6_isEnough_42 : decode cX6_isEnough 42 = .ok (.iadd, 1) := by decide +kernel
theorem dX6_isEnough_43 : decode cX6_isEnough 43 = .ok (.putfield 215, 3) := by decide +kernel
theorem dX6_isEnough_46 : decode cX6_isEnough 46 = .ok (.aload_n 0, 1) := by decide +kernel
theorem dX6_isEnough_47 : decode cX6_isEnough 47 = .ok (.getfield 19, 3) := by decide +kernel
theorem dX6_isEnough_50 : decode cX6_isEnough 50 = .ok (.iload_n 3, 1) := by decide +kernel
theorem dX6_isEnough_51 : decode cX6_isEnough 51 = .ok (.invokevirtual 173, 3) := by decide +kernel
theorem dX6_isEnough_54 : decode cX6_isEnough 54 = .ok (.ifCond .ne 7, 3) := by decide +kernel
theorem dX6_isEnough_57 : decode cX6_isEnough 57 = .ok (.iconst 1, 1) := by decide +kernel
theorem dX6_isEnough_58 : decode cX6_isEnough 58 = .ok (.goto 4, 3) := by decide +kernel
theorem dX6_isEnough_61 : decode cX6_isEnough 61 = .ok (.iconst 0, 1) := by decide +kernel
theorem dX6_isEnough_62 : decode cX6_isEnough 62 = .ok (.ireturn, 1) := by decide +kernel
