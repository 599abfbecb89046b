theorem dX2_init_0 : decode cX2_init 0 = .ok (.aload_n 0, 1) := by decide +kernel
theorem dX2_init_1 : decode cX2_init 1 = .ok (.invokespecial 3, 3) := by decide +kernel
theorem dX2_init_4 : decode cX2_init 4 = .ok (.aload_n 0, 1) := by decide +kernel
theorem dX2_init_5 : decode cX2_init 5 = .ok (.bipush 24, 2) := by decide +kernel
theorem dX2_init_7 : decode cX2_init 7 = .ok (.newarray .int, 2) := by decide +kernel
theorem dX2_init_9 : decode cX2_init 9 = .ok (.putfield 9, 3) := by decide +kernel
theorem dX2_init_12 : decode cX2_init 12 = .ok (.aload_n 0, 1) := by decide +kernel
theorem dX2_init_13 : decode cX2_init 13 = .ok (.iconst (-1), 1) := by decide +kernel
theorem dX2_init_14 : decode cX2_init 14 = .ok (.putfield 15, 3) := by decide +kernel
theorem dX2_init_17 : decode cX2_init 17 = .ok (.aload_n 0, 1) := by decide +kernel
theorem dX2_init_18 : decode cX2_init 18 = .ok (.iconst 0, 1) := by decide +kernel
theorem dX2_init_19 : decode cX2_init 19 = .ok (.putfield 19, 3) := by decide +kernel
theorem dX2_init_22 : decode cX2_init 22 = .ok (.return_, 1) := by decide +kernel
theorem dX2_begin_0 : decode cX2_begin 0 = .ok (.aload_n 0, 1) := by decide +kernel
theorem dX2_begin_1 : decode cX2_begin 1 = .ok (.iload_n 1, 1) := by decide +kernel
theorem dX2_begin_2 : decode cX2_begin 2 = .ok (.putfield 15, 3) := by decide +kernel
theorem dX2_begin_5 : decode cX2_begin 5 = .ok (.aload_n 0, 1) := by decide +kernel
theorem dX2_begin_6 : decode cX2_begin 6 = .ok (.iload_n 2, 1) := by decide +kernel
theorem dX2_begin_7 : decode cX2_begin 7 = .ok (.putfield 19, 3) := by decide +kernel
theorem dX2_begin_10 : decode cX2_begin 10 = .ok (.aload_n 0, 1) := by decide +kernel
theorem dX2_begin_11 : decode cX2_begin 11 = .ok (.getfield 9, 3) := by decide +kernel
theorem dX2_begin_14 : decode cX2_begin 14 = .ok (.iconst 0, 1) := by decide +kernel
theorem dX2_begin_15 : decode cX2_begin 15 = .ok (.invokestatic 22, 3) := by decide +kernel
theorem dX2_begin_18 : decode cX2_begin 18 = .ok (.return_, 1) := by decide +kernel
theorem dX2_beLike_0 : decode cX2_beLike 0 = .ok (.aload_n 0, 1) := by decide +kernel
theorem dX2_beLike_1 : decode cX2_beLike 1 = .ok (.aload_n 1, 1) := by decide +kernel
theorem dX2_beLike_2 : decode cX2_beLike 2 = .ok (.getfield 15, 3) := by decide +kernel
theorem dX2_beLike_5 : decode cX2_beLike 5 = .ok (.putfield 15, 3) := by decide +kernel
theorem dX2_beLike_8 : decode cX2_beLike 8 = .ok (.aload_n 0, 1) := by decide +kernel
theorem dX2_beLike_9 : decode cX2_beLike 9 = .ok (.aload_n 1, 1) := by decide +kernel
theorem dX2_beLike_10 : decode cX2_beLike 10 = .ok (.getfield 19, 3) := by decide +kernel
theorem dX2_beLike_13 : decode cX2_beLike 13 = .ok (.putfield 19, 3) := by decide +kernel
theorem dX2_beLike_16 : decode cX2_beLike 16 = .ok (.aload_n 1, 1) := by decide +kernel
theorem dX2_beLike_17 : decode cX2_beLike 17 = .ok (.getfield 9, 3) := by decide +kernel
theorem dX2_beLike_20 : decode cX2_beLike 20 = .ok (.iconst 0, 1) := by decide +kernel
theorem dX2_beLike_21 : decode cX2_beLike 21 = .ok (.aload_n 0, 1) := by decide +kernel
theorem dX2_beLike_22 : decode cX2_beLike 22 = .ok (.getfield 9, 3) := by decide +kernel
theorem dX2_beLike_25 : decode cX2_beLike 25 = .ok (.iconst 0, 1) := by decide +kernel
theorem dX2_beLike_26 : decode cX2_beLike 26 = .ok (.bipush 24, 2) := by decide +kernel
theorem dX2_beLike_28 : decode cX2_beLike 28 = .ok (.invokestatic 28, 3) := by decide +kernel
theorem dX2_beLike_31 : decode cX2_beLike 31 = .ok (.return_, 1) := by decide +kernel
theorem dX2_hasPlace_0 : decode cX2_hasPlace 0 = .ok (.iload_n 1, 1) := by decide +kernel
theorem dX2_hasPlace_1 : decode cX2_hasPlace 1 = .ok (.ifCond .lt 15, 3) := by decide +kernel
theorem dX2_hasPlace_4 : decode cX2_hasPlace 4 = .ok (.iload_n 1, 1) := by decide +kernel
theorem dX2_hasPlace_5 : decode cX2_hasPlace 5 = .ok (.aload_n 0, 1) := by decide +kernel
theorem dX2_hasPlace_6 : decode cX2_hasPlace 6 = .ok (.getfield 19, 3) := by decide +kernel
theorem dX2_hasPlace_9 : decode cX2_hasPlace 9 = .ok (.if_icmp .ge 7, 3) := by decide +kernel
theorem dX2_hasPlace_12 : decode cX2_hasPlace 12 = .ok (.iconst 1, 1) := by decide +kernel
theorem dX2_hasPlace_13 : decode cX2_hasPlace 13 = .ok (.goto 4, 3) := by decide +kernel
theorem dX2_hasPlace_16 : decode cX2_hasPlace 16 = .ok (.iconst 0, 1) := by decide +kernel
theorem dX2_hasPlace_17 : decode cX2_hasPlace 17 = .ok (.ireturn, 1) := by decide +kernel
theorem dX2_hasPlaces_0 : decode cX2_hasPlaces 0 = .ok (.iload_n 1, 1) := by decide +kernel
theorem dX2_hasPlaces_1 : decode cX2_hasPlaces 1 = .ok (.ifCond .lt 29, 3) := by decide +kernel
theorem dX2_hasPlaces_4 : decode cX2_hasPlaces 4 = .ok (.iload_n 1, 1) := by decide +kernel
theorem dX2_hasPlaces_5 : decode cX2_hasPlaces 5 = .ok (.aload_n 0, 1) := by decide +kernel
theorem dX2_hasPlaces_6 : decode cX2_hasPlaces 6 = .ok (.getfield 19, 3) := by decide +kernel
theorem dX2_hasPlaces_9 : decode cX2_hasPlaces 9 = .ok (.if_icmp .gt 21, 3) := by decide +kernel
theorem dX2_hasPlaces_12 : decode cX2_hasPlaces 12 = .ok (.iload_n 2, 1) := by decide +kernel
theorem dX2_hasPlaces_13 : decode cX2_hasPlaces 13 = .ok (.ifCond .lt 17, 3) := by decide +kernel
theorem dX2_hasPlaces_16 : decode cX2_hasPlaces 16 = .ok (.iload_n 2, 1) := by decide +kernel
theorem dX2_hasPlaces_17 : decode cX2_hasPlaces 17 = .ok (.aload_n 0, 1) := by decide +kernel
theorem dX2_hasPlaces_18 : decode cX2_hasPlaces 18 = .ok (.getfield 19, 3) := by decide +kernel
theorem dX2_hasPlaces_21 : decode cX2_hasPlaces 21 = .ok (.iload_n 1, 1) := by decide +kernel
theorem dX2_hasPlaces_22 : decode cX2_hasPlaces 22 = .ok (.isub, 1) := by decide +kernel
theorem dX2_hasPlaces_23 : decode cX2_hasPlaces 23 = .ok (.if_icmp .gt 7, 3) := by decide +kernel
theorem dX2_hasPlaces_26 : decode cX2_hasPlaces 26 = .ok (.iconst 1, 1) := by decide +kernel
theorem dX2_hasPlaces_27 : decode cX2_hasPlaces 27 = .ok (.goto 4, 3) := by decide +kernel
theorem dX2_hasPlaces_30 : decode cX2_hasPlaces 30 = .ok (.iconst 0, 1) := by decide +kernel
theorem dX2_hasPlaces_31 : decode cX2_hasPlaces 31 = .ok (.ireturn, 1) := by decide +kernel
theorem dX2_isNumber_0 : decode cX2_isNumber 0 = .ok (.aload_n 0, 1) := by decide +kernel
theorem dX2_isNumber_1 : decode cX2_isNumber 1 = .ok (.getfield 9, 3) := by decide +kernel
theorem dX2_isNumber_4 : decode cX2_isNumber 4 = .ok (.iload_n 1, 1) := by decide +kernel
theorem dX2_isNumber_5 : decode cX2_isNumber 5 = .ok (.iaload, 1) := by decide +kernel
theorem dX2_isNumber_6 : decode cX2_isNumber 6 = .ok (.ldc 34, 2) := by decide +kernel
theorem dX2_isNumber_8 : decode cX2_isNumber 8 = .ok (.if_icmp .eq 7, 3) := by decide +kernel
theorem dX2_isNumber_11 : decode cX2_isNumber 11 = .ok (.iconst 1, 1) := by decide +kernel
theorem dX2_isNumber_12 : decode cX2_isNumber 12 = .ok (.goto 4, 3) := by decide +kernel
theorem dX2_isNumber_15 : decode cX2_isNumber 15 = .ok (.iconst 0, 1) := by decide +kernel
theorem dX2_isNumber_16 : decode cX2_isNumber 16 = .ok (.ireturn, 1) := by decide +kernel
