theorem dX0_init_0 : decode cX0_init 0 = .ok (.aload_n 0, 1) := by decide +kernel
theorem dX0_init_1 : decode cX0_init 1 = .ok (.invokespecial 1, 3) := by decide +kernel
theorem dX0_init_4 : decode cX0_init 4 = .ok (.return_, 1) := by decide +kernel
theorem dX0_clear_0 : decode cX0_clear 0 = .ok (.aload_n 0, 1) := by decide +kernel
theorem dX0_clear_1 : decode cX0_clear 1 = .ok (.iconst 0, 1) := by decide +kernel
theorem dX0_clear_2 : decode cX0_clear 2 = .ok (.putfield 7, 3) := by decide +kernel
theorem dX0_clear_5 : decode cX0_clear 5 = .ok (.aload_n 0, 1) := by decide +kernel
theorem dX0_clear_6 : decode cX0_clear 6 = .ok (.iconst 0, 1) := by decide +kernel
theorem dX0_clear_7 : decode cX0_clear 7 = .ok (.putfield 13, 3) := by decide +kernel
theorem dX0_clear_10 : decode cX0_clear 10 = .ok (.aload_n 0, 1) := by decide +kernel
theorem dX0_clear_11 : decode cX0_clear 11 = .ok (.iconst 0, 1) := by decide +kernel
theorem dX0_clear_12 : decode cX0_clear 12 = .ok (.putfield 16, 3) := by decide +kernel
theorem dX0_clear_15 : decode cX0_clear 15 = .ok (.aload_n 0, 1) := by decide +kernel
theorem dX0_clear_16 : decode cX0_clear 16 = .ok (.iconst 0, 1) := by decide +kernel
theorem dX0_clear_17 : decode cX0_clear 17 = .ok (.putfield 19, 3) := by decide +kernel
theorem dX0_clear_20 : decode cX0_clear 20 = .ok (.aload_n 0, 1) := by decide +kernel
theorem dX0_clear_21 : decode cX0_clear 21 = .ok (.iconst 0, 1) := by decide +kernel
theorem dX0_clear_22 : decode cX0_clear 22 = .ok (.putfield 22, 3) := by decide +kernel
theorem dX0_clear_25 : decode cX0_clear 25 = .ok (.aload_n 0, 1) := by decide +kernel
theorem dX0_clear_26 : decode cX0_clear 26 = .ok (.iconst 0, 1) := by decide +kernel
theorem dX0_clear_27 : decode cX0_clear 27 = .ok (.putfield 25, 3) := by decide +kernel
theorem dX0_clear_30 : decode cX0_clear 30 = .ok (.aload_n 0, 1) := by decide +kernel
theorem dX0_clear_31 : decode cX0_clear 31 = .ok (.iconst 0, 1) := by decide +kernel
theorem dX0_clear_32 : decode cX0_clear 32 = .ok (.putfield 28, 3) := by decide +kernel
theorem dX0_clear_35 : decode cX0_clear 35 = .ok (.aload_n 0, 1) := by decide +kernel
theorem dX0_clear_36 : decode cX0_clear 36 = .ok (.iconst 0, 1) := by decide +kernel
theorem dX0_clear_37 : decode cX0_clear 37 = .ok (.putfield 31, 3) := by decide +kernel
theorem dX0_clear_40 : decode cX0_clear 40 = .ok (.aload_n 0, 1) := by decide +kernel
theorem dX0_clear_41 : decode cX0_clear 41 = .ok (.iconst 0, 1) := by decide +kernel
theorem dX0_clear_42 : decode cX0_clear 42 = .ok (.putfield 34, 3) := by decide +kernel
theorem dX0_clear_45 : decode cX0_clear 45 = .ok (.return_, 1) := by decide +kernel
theorem dX0_endRepeat_0 : decode cX0_endRepeat 0 = .ok (.aload_n 0, 1) := by decide +kernel
theorem dX0_endRepeat_1 : decode cX0_endRepeat 1 = .ok (.getfield 16, 3) := by decide +kernel
theorem dX0_endRepeat_4 : decode cX0_endRepeat 4 = .ok (.ifCond .le 46, 3) := by decide +kernel
theorem dX0_endRepeat_7 : decode cX0_endRepeat 7 = .ok (.aload_n 0, 1) := by decide +kernel
theorem dX0_endRepeat_8 : decode cX0_endRepeat 8 = .ok (.dup, 1) := by decide +kernel
theorem dX0_endRepeat_9 : decode cX0_endRepeat 9 = .ok (.getfield 16, 3) := by decide +kernel
theorem dX0_endRepeat_12 : decode cX0_endRepeat 12 = .ok (.iconst 1, 1) := by decide +kernel
theorem dX0_endRepeat_13 : decode cX0_endRepeat 13 = .ok (.isub, 1) := by decide +kernel
theorem dX0_endRepeat_14 : decode cX0_endRepeat 14 = .ok (.putfield 16, 3) := by decide +kernel
theorem dX0_endRepeat_17 : decode cX0_endRepeat 17 = .ok (.aload_n 0, 1) := by decide +kernel
theorem dX0_endRepeat_18 : decode cX0_endRepeat 18 = .ok (.getfield 16, 3) := by decide +kernel
theorem dX0_endRepeat_21 : decode cX0_endRepeat 21 = .ok (.ifCond .ne 29, 3) := by decide +kernel
theorem dX0_endRepeat_24 : decode cX0_endRepeat 24 = .ok (.aload_n 0, 1) := by decide +kernel
theorem dX0_endRepeat_25 : decode cX0_endRepeat 25 = .ok (.dup, 1) := by decide +kernel
theorem dX0_endRepeat_26 : decode cX0_endRepeat 26 = .ok (.getfield 25, 3) := by decide +kernel
theorem dX0_endRepeat_29 : decode cX0_endRepeat 29 = .ok (.aload_n 0, 1) := by decide +kernel
theorem dX0_endRepeat_30 : decode cX0_endRepeat 30 = .ok (.getfield 31, 3) := by decide +kernel
theorem dX0_endRepeat_33 : decode cX0_endRepeat 33 = .ok (.iadd, 1) := by decide +kernel
theorem dX0_endRepeat_34 : decode cX0_endRepeat 34 = .ok (.putfield 25, 3) := by decide +kernel
theorem dX0_endRepeat_37 : decode cX0_endRepeat 37 = .ok (.aload_n 0, 1) := by decide +kernel
theorem dX0_endRepeat_38 : decode cX0_endRepeat 38 = .ok (.dup, 1) := by decide +kernel
theorem dX0_endRepeat_39 : decode cX0_endRepeat 39 = .ok (.getfield 28, 3) := by decide +kernel
theorem dX0_endRepeat_42 : decode cX0_endRepeat 42 = .ok (.aload_n 0, 1) := by decide +kernel
theorem dX0_endRepeat_43 : decode cX0_endRepeat 43 = .ok (.getfield 34, 3) := by decide +kernel
theorem dX0_endRepeat_46 : decode cX0_endRepeat 46 = .ok (.iadd, 1) := by decide +kernel
theorem dX0_endRepeat_47 : decode cX0_endRepeat 47 = .ok (.putfield 28, 3) := by decide +kernel
theorem dX0_endRepeat_50 : decode cX0_endRepeat 50 = .ok (.aload_n 0, 1) := by decide +kernel
theorem dX0_endRepeat_51 : decode cX0_endRepeat 51 = .ok (.aload_n 0, 1) := by decide +kernel
theorem dX0_endRepeat_52 : decode cX0_endRepeat 52 = .ok (.getfield 22, 3) := by decide +kernel
theorem dX0_endRepeat_55 : decode cX0_endRepeat 55 = .ok (.invokestatic 37, 3) := by decide +kernel
theorem dX0_endRepeat_58 : decode cX0_endRepeat 58 = .ok (.putfield 22, 3) := by decide +kernel
theorem dX0_endRepeat_61 : decode cX0_endRepeat 61 = .ok (.return_, 1) := by decide +kernel
theorem dX1_init_0 : decode cX1_init 0 = .ok (.aload_n 0, 1) := by decide +kernel
theorem dX1_init_1 : decode cX1_init 1 = .ok (.invokespecial 3, 3) := by decide +kernel
theorem dX1_init_4 : decode cX1_init 4 = .ok (.aload_n 0, 1) := by decide +kernel
theorem dX1_init_5 : decode cX1_init 5 = .ok (.bipush 64, 2) := by decide +kernel
theorem dX1_init_7 : decode cX1_init 7 = .ok (.newarray .int, 2) := by decide +kernel
theorem dX1_init_9 : decode cX1_init 9 = .ok (.putfield 9, 3) := by decide +kernel
theorem dX1_init_12 : decode cX1_init 12 = .ok (.return_, 1) := by decide +kernel
theorem dX1_begin_0 : decode cX1_begin 0 = .ok (.aload_n 0, 1) := by decide +kernel
theorem dX1_begin_1 : decode cX1_begin 1 = .ok (.iconst 0, 1) := by decide +kernel
theorem dX1_begin_2 : decode cX1_begin 2 = .ok (.putfield 15, 3) := by decide +kernel
theorem dX1_begin_5 : decode cX1_begin 5 = .ok (.return_, 1) := by decide +kernel
theorem dX1_add_0 : decode cX1_add 0 = .ok (.aload_n 0, 1) := by decide +kernel
theorem dX1_add_1 : decode cX1_add 1 = .ok (.getfield 9, 3) := by decide +kernel
theorem dX1_add_4 : decode cX1_add 4 = .ok (.aload_n 0, 1) := by decide +kernel
theorem dX1_add_5 : decode cX1_add 5 = .ok (.getfield 15, 3) := by decide +kernel
theorem dX1_add_8 : decode cX1_add 8 = .ok (.bipush 63, 2) := by decide +kernel
theorem dX1_add_10 : decode cX1_add 10 = .ok (.iand, 1) := by decide +kernel
theorem dX1_add_11 : decode cX1_add 11 = .ok (.iload_n 1, 1) := by decide +kernel
theorem dX1_add_12 : decode cX1_add 12 = .ok (.iastore, 1) := by decide +kernel
theorem dX1_add_13 : decode cX1_add 13 = .ok (.aload_n 0, 1) := by decide +kernel
theorem dX1_add_14 : decode cX1_add 14 = .ok (.dup, 1) := by decide +kernel
theorem dX1_add_15 : decode cX1_add 15 = .ok (.getfield 15, 3) := by decide +kernel
theorem dX1_add_18 : decode cX1_add 18 = .ok (.iconst 1, 1) := by decide +kernel
theorem dX1_add_19 : decode cX1_add 19 = .ok (.iadd, 1) := by decide +kernel
theorem dX1_add_20 : decode cX1_add 20 = .ok (.putfield 15, 3) := by decide +kernel
theorem dX1_add_23 : decode cX1_add 23 = .ok (.return_, 1) := by decide +kernel
theorem dX1_kept_0 : decode cX1_kept 0 = .ok (.iload_n 1, 1) := by decide +kernel
theorem dX1_kept_1 : decode cX1_kept 1 = .ok (.bipush 60, 2) := by decide +kernel
theorem dX1_kept_3 : decode cX1_kept 3 = .ok (.invokestatic 25, 3) := by decide +kernel
theorem dX1_kept_6 : decode cX1_kept 6 = .ok (.aload_n 0, 1) := by decide +kernel
theorem dX1_kept_7 : decode cX1_kept 7 = .ok (.getfield 15, 3) := by decide +kernel
theorem dX1_kept_10 : decode cX1_kept 10 = .ok (.invokestatic 25, 3) := by decide +kernel
theorem dX1_kept_13 : decode cX1_kept 13 = .ok (.ireturn, 1) := by decide +kernel
theorem dX1_sizeOf_0 : decode cX1_sizeOf 0 = .ok (.aload_n 0, 1) := by decide +kernel
theorem dX1_sizeOf_1 : decode cX1_sizeOf 1 = .ok (.getfield 9, 3) := by decide +kernel
theorem dX1_sizeOf_4 : decode cX1_sizeOf 4 = .ok (.aload_n 0, 1) := by decide +kernel
theorem dX1_sizeOf_5 : decode cX1_sizeOf 5 = .ok (.getfield 15, 3) := by decide +kernel
theorem dX1_sizeOf_8 : decode cX1_sizeOf 8 = .ok (.iload_n 1, 1) := by decide +kernel
theorem dX1_sizeOf_9 : decode cX1_sizeOf 9 = .ok (.isub, 1) := by decide +kernel
theorem dX1_sizeOf_10 : decode cX1_sizeOf 10 = .ok (.bipush 63, 2) := by decide +kernel
theorem dX1_sizeOf_12 : decode cX1_sizeOf 12 = .ok (.iand, 1) := by decide +kernel
theorem dX1_sizeOf_13 : decode cX1_sizeOf 13 = .ok (.iaload, 1) := by decide +kernel
theorem dX1_sizeOf_14 : decode cX1_sizeOf 14 = .ok (.invokestatic 31, 3) := by decide +kernel
theorem dX1_sizeOf_17 : decode cX1_sizeOf 17 = .ok (.ireturn, 1) := by decide +kernel
theorem dX1_greatest_0 : decode cX1_greatest 0 = .ok (.iconst 0, 1) := by decide +kernel
theorem dX1_greatest_1 : decode cX1_greatest 1 = .ok (.istore_n 2, 1) := by decide +kernel
theorem dX1_greatest_2 : decode cX1_greatest 2 = .ok (.iconst 1, 1) := by decide +kernel
theorem dX1_greatest_3 : decode cX1_greatest 3 = .ok (.istore_n 3, 1) := by decide +kernel
theorem dX1_greatest_4 : decode cX1_greatest 4 = .ok (.iload_n 3, 1) := by decide +kernel
theorem dX1_greatest_5 : decode cX1_greatest 5 = .ok (.aload_n 0, 1) := by decide +kernel
theorem dX1_greatest_6 : decode cX1_greatest 6 = .ok (.iload_n 1, 1) := by decide +kernel
theorem dX1_greatest_7 : decode cX1_greatest 7 = .ok (.invokevirtual 35, 3) := by decide +kernel
theorem dX1_greatest_10 : decode cX1_greatest 10 = .ok (.if_icmp .gt 19, 3) := by decide +kernel
theorem dX1_greatest_13 : decode cX1_greatest 13 = .ok (.iload_n 2, 1) := by decide +kernel
theorem dX1_greatest_14 : decode cX1_greatest 14 = .ok (.aload_n 0, 1) := by decide +kernel
theorem dX1_greatest_15 : decode cX1_greatest 15 = .ok (.iload_n 3, 1) := by decide +kernel
theorem dX1_greatest_16 : decode cX1_greatest 16 = .ok (.invokevirtual 38, 3) := by decide +kernel
theorem dX1_greatest_19 : decode cX1_greatest 19 = .ok (.invokestatic 41, 3) := by decide +kernel
theorem dX1_greatest_22 : decode cX1_greatest 22 = .ok (.istore_n 2, 1) := by decide +kernel
theorem dX1_greatest_23 : decode cX1_greatest 23 = .ok (.iinc 3 1, 3) := by decide +kernel
theorem dX1_greatest_26 : decode cX1_greatest 26 = .ok (.goto (-22), 3) := by decide +kernel
theorem dX1_greatest_29 : decode cX1_greatest 29 = .ok (.iload_n 2, 1) := by decide +kernel
theorem dX1_greatest_30 : decode cX1_greatest 30 = .ok (.ireturn, 1) := by decide +kernel
theorem dX1_sumOf_0 : decode cX1_sumOf 0 = .ok (.iconst 0, 1) := by decide +kernel
theorem dX1_sumOf_1 : decode cX1_sumOf 1 = .ok (.istore_n 2, 1) := by decide +kernel
theorem dX1_sumOf_2 : decode cX1_sumOf 2 = .ok (.iconst 1, 1) := by decide +kernel
theorem dX1_sumOf_3 : decode cX1_sumOf 3 = .ok (.istore_n 3, 1) := by decide +kernel
theorem dX1_sumOf_4 : decode cX1_sumOf 4 = .ok (.iload_n 3, 1) := by decide +kernel
theorem dX1_sumOf_5 : decode cX1_sumOf 5 = .ok (.aload_n 0, 1) := by decide +kernel
theorem dX1_sumOf_6 : decode cX1_sumOf 6 = .ok (.iload_n 1, 1) := by decide +kernel
theorem dX1_sumOf_7 : decode cX1_sumOf 7 = .ok (.invokevirtual 35, 3) := by decide +kernel
theorem dX1_sumOf_10 : decode cX1_sumOf 10 = .ok (.if_icmp .gt 17, 3) := by decide +kernel
theorem dX1_sumOf_13 : decode cX1_sumOf 13 = .ok (.iload_n 2, 1) := by decide +kernel
theorem dX1_sumOf_14 : decode cX1_sumOf 14 = .ok (.aload_n 0, 1) := by decide +kernel
theorem dX1_sumOf_15 : decode cX1_sumOf 15 = .ok (.iload_n 3, 1) := by decide +kernel
theorem dX1_sumOf_16 : decode cX1_sumOf 16 = .ok (.invokevirtual 38, 3) := by decide +kernel
theorem dX1_sumOf_19 : decode cX1_sumOf 19 = .ok (.iadd, 1) := by decide +kernel
theorem dX1_sumOf_20 : decode cX1_sumOf 20 = .ok (.istore_n 2, 1) := by decide +kernel
theorem dX1_sumOf_21 : decode cX1_sumOf 21 = .ok (.iinc 3 1, 3) := by decide +kernel
theorem dX1_sumOf_24 : decode cX1_sumOf 24 = .ok (.goto (-20), 3) := by decide +kernel
theorem dX1_sumOf_27 : decode cX1_sumOf 27 = .ok (.iload_n 2, 1) := by decide +kernel
theorem dX1_sumOf_28 : decode cX1_sumOf 28 = .ok (.ireturn, 1) := by decide +kernel
theorem dX1_greaterThan_0 : decode cX1_greaterThan 0 = .ok (.iconst 0, 1) := by decide +kernel
theorem dX1_greaterThan_1 : decode cX1_greaterThan 1 = .ok (.istore_n 3, 1) := by decide +kernel
theorem dX1_greaterThan_2 : decode cX1_greaterThan 2 = .ok (.iconst 1, 1) := by decide +kernel
theorem dX1_greaterThan_3 : decode cX1_greaterThan 3 = .ok (.istore 4, 2) := by decide +kernel
theorem dX1_greaterThan_5 : decode cX1_greaterThan 5 = .ok (.iload 4, 2) := by decide +kernel
theorem dX1_greaterThan_7 : decode cX1_greaterThan 7 = .ok (.aload_n 0, 1) := by decide +kernel
theorem dX1_greaterThan_8 : decode cX1_greaterThan 8 = .ok (.iload_n 1, 1) := by decide +kernel
theorem dX1_greaterThan_9 : decode cX1_greaterThan 9 = .ok (.invokevirtual 35, 3) := by decide +kernel
theorem dX1_greaterThan_12 : decode cX1_greaterThan 12 = .ok (.if_icmp .gt 22, 3) := by decide +kernel
theorem dX1_greaterThan_15 : decode cX1_greaterThan 15 = .ok (.aload_n 0, 1) := by decide +kernel
theorem dX1_greaterThan_16 : decode cX1_greaterThan 16 = .ok (.iload 4, 2) := by decide +kernel
theorem dX1_greaterThan_18 : decode cX1_greaterThan 18 = .ok (.invokevirtual 38, 3) := by decide +kernel
theorem dX1_greaterThan_21 : decode cX1_greaterThan 21 = .ok (.iload_n 2, 1) := by decide +kernel
theorem dX1_greaterThan_22 : decode cX1_greaterThan 22 = .ok (.if_icmp .le 6, 3) := by decide +kernel
theorem dX1_greaterThan_25 : decode cX1_greaterThan 25 = .ok (.iinc 3 1, 3) := by decide +kernel
theorem dX1_greaterThan_28 : decode cX1_greaterThan 28 = .ok (.iinc 4 1, 3) := by decide +kernel
theorem dX1_greaterThan_31 : decode cX1_greaterThan 31 = .ok (.goto (-26), 3) := by decide +kernel
theorem dX1_greaterThan_34 : decode cX1_greaterThan 34 = .ok (.iload_n 3, 1) := by decide +kernel
theorem dX1_greaterThan_35 : decode cX1_greaterThan 35 = .ok (.ireturn, 1) := by decide +kernel
theorem dX2_init_0 : decode cX2_init 0 = .ok (.aload_n 0, 1) := by decide +kernel
theorem dX2_init_1 : decode cX2_init 1 = .ok (.invokespecial 3, 3) := by decide +kernel
theorem dX2_init_4 : decode cX2_init 4 = .ok (.aload_n 0, 1) := by decide +kernel
theorem dX2_init_5 : decode cX2_init 5 = .ok (.bipush 80, 2) := by decide +kernel
theorem dX2_init_7 : decode cX2_init 7 = .ok (.newarray .int, 2) := by decide +kernel
theorem dX2_init_9 : decode cX2_init 9 = .ok (.putfield 9, 3) := by decide +kernel
theorem dX2_init_12 : decode cX2_init 12 = .ok (.return_, 1) := by decide +kernel
theorem dX3_init_0 : decode cX3_init 0 = .ok (.aload_n 0, 1) := by decide +kernel
theorem dX3_init_1 : decode cX3_init 1 = .ok (.invokespecial 3, 3) := by decide +kernel
theorem dX3_init_4 : decode cX3_init 4 = .ok (.aload_n 0, 1) := by decide +kernel
theorem dX3_init_5 : decode cX3_init 5 = .ok (.iconst 5, 1) := by decide +kernel
theorem dX3_init_6 : decode cX3_init 6 = .ok (.anewarray 9, 3) := by decide +kernel
theorem dX3_init_9 : decode cX3_init 9 = .ok (.putfield 11, 3) := by decide +kernel
theorem dX3_init_12 : decode cX3_init 12 = .ok (.aload_n 0, 1) := by decide +kernel
theorem dX3_init_13 : decode cX3_init 13 = .ok (.sipush 128, 3) := by decide +kernel
theorem dX3_init_16 : decode cX3_init 16 = .ok (.newarray .int, 2) := by decide +kernel
theorem dX3_init_18 : decode cX3_init 18 = .ok (.putfield 17, 3) := by decide +kernel
theorem dX3_init_21 : decode cX3_init 21 = .ok (.aload_n 0, 1) := by decide +kernel
theorem dX3_init_22 : decode cX3_init 22 = .ok (.bipush 6, 2) := by decide +kernel
theorem dX3_init_24 : decode cX3_init 24 = .ok (.newarray .int, 2) := by decide +kernel
theorem dX3_init_26 : decode cX3_init 26 = .ok (.putfield 21, 3) := by decide +kernel
theorem dX3_init_29 : decode cX3_init 29 = .ok (.iconst 0, 1) := by decide +kernel
theorem dX3_init_30 : decode cX3_init 30 = .ok (.istore_n 1, 1) := by decide +kernel
theorem dX3_init_31 : decode cX3_init 31 = .ok (.iload_n 1, 1) := by decide +kernel
theorem dX3_init_32 : decode cX3_init 32 = .ok (.iconst 5, 1) := by decide +kernel
theorem dX3_init_33 : decode cX3_init 33 = .ok (.if_icmp .ge 22, 3) := by decide +kernel
theorem dX3_init_36 : decode cX3_init 36 = .ok (.aload_n 0, 1) := by decide +kernel
theorem dX3_init_37 : decode cX3_init 37 = .ok (.getfield 11, 3) := by decide +kernel
theorem dX3_init_40 : decode cX3_init 40 = .ok (.iload_n 1, 1) := by decide +kernel
theorem dX3_init_41 : decode cX3_init 41 = .ok (.new 9, 3) := by decide +kernel
theorem dX3_init_44 : decode cX3_init 44 = .ok (.dup, 1) := by decide +kernel
theorem dX3_init_45 : decode cX3_init 45 = .ok (.invokespecial 24, 3) := by decide +kernel
theorem dX3_init_48 : decode cX3_init 48 = .ok (.aastore, 1) := by decide +kernel
theorem dX3_init_49 : decode cX3_init 49 = .ok (.iinc 1 1, 3) := by decide +kernel
theorem dX3_init_52 : decode cX3_init 52 = .ok (.goto (-21), 3) := by decide +kernel
theorem dX3_init_55 : decode cX3_init 55 = .ok (.return_, 1) := by decide +kernel
theorem dX3_begin_0 : decode cX3_begin 0 = .ok (.aload_n 0, 1) := by decide +kernel
theorem dX3_begin_1 : decode cX3_begin 1 = .ok (.iload_n 1, 1) := by decide +kernel
theorem dX3_begin_2 : decode cX3_begin 2 = .ok (.putfield 25, 3) := by decide +kernel
theorem dX3_begin_5 : decode cX3_begin 5 = .ok (.aload_n 0, 1) := by decide +kernel
theorem dX3_begin_6 : decode cX3_begin 6 = .ok (.iconst 0, 1) := by decide +kernel
theorem dX3_begin_7 : decode cX3_begin 7 = .ok (.putfield 29, 3) := by decide +kernel
theorem dX3_begin_10 : decode cX3_begin 10 = .ok (.aload_n 0, 1) := by decide +kernel
theorem dX3_begin_11 : decode cX3_begin 11 = .ok (.iconst 0, 1) := by decide +kernel
theorem dX3_begin_12 : decode cX3_begin 12 = .ok (.putfield 32, 3) := by decide +kernel
theorem dX3_begin_15 : decode cX3_begin 15 = .ok (.aload_n 0, 1) := by decide +kernel
theorem dX3_begin_16 : decode cX3_begin 16 = .ok (.iconst 0, 1) := by decide +kernel
theorem dX3_begin_17 : decode cX3_begin 17 = .ok (.putfield 35, 3) := by decide +kernel
theorem dX3_begin_20 : decode cX3_begin 20 = .ok (.aload_n 0, 1) := by decide +kernel
theorem dX3_begin_21 : decode cX3_begin 21 = .ok (.iconst 0, 1) := by decide +kernel
theorem dX3_begin_22 : decode cX3_begin 22 = .ok (.putfield 38, 3) := by decide +kernel
theorem dX3_begin_25 : decode cX3_begin 25 = .ok (.aload_n 0, 1) := by decide +kernel
theorem dX3_begin_26 : decode cX3_begin 26 = .ok (.iconst 0, 1) := by decide +kernel
theorem dX3_begin_27 : decode cX3_begin 27 = .ok (.putfield 41, 3) := by decide +kernel
theorem dX3_begin_30 : decode cX3_begin 30 = .ok (.aload_n 0, 1) := by decide +kernel
theorem dX3_begin_31 : decode cX3_begin 31 = .ok (.iconst 0, 1) := by decide +kernel
theorem dX3_begin_32 : decode cX3_begin 32 = .ok (.putfield 44, 3) := by decide +kernel
theorem dX3_begin_35 : decode cX3_begin 35 = .ok (.iconst 0, 1) := by decide +kernel
theorem dX3_begin_36 : decode cX3_begin 36 = .ok (.istore_n 2, 1) := by decide +kernel
theorem dX3_begin_37 : decode cX3_begin 37 = .ok (.iload_n 2, 1) := by decide +kernel
theorem dX3_begin_38 : decode cX3_begin 38 = .ok (.bipush 6, 2) := by decide +kernel
theorem dX3_begin_40 : decode cX3_begin 40 = .ok (.if_icmp .ge 16, 3) := by decide +kernel
theorem dX3_begin_43 : decode cX3_begin 43 = .ok (.aload_n 0, 1) := by decide +kernel
theorem dX3_begin_44 : decode cX3_begin 44 = .ok (.getfield 21, 3) := by decide +kernel
theorem dX3_begin_47 : decode cX3_begin 47 = .ok (.iload_n 2, 1) := by decide +kernel
theorem dX3_begin_48 : decode cX3_begin 48 = .ok (.iconst 0, 1) := by decide +kernel
theorem dX3_begin_49 : decode cX3_begin 49 = .ok (.iastore, 1) := by decide +kernel
theorem dX3_begin_50 : decode cX3_begin 50 = .ok (.iinc 2 1, 3) := by decide +kernel
theorem dX3_begin_53 : decode cX3_begin 53 = .ok (.goto (-16), 3) := by decide +kernel
theorem dX3_begin_56 : decode cX3_begin 56 = .ok (.iconst 0, 1) := by decide +kernel
theorem dX3_begin_57 : decode cX3_begin 57 = .ok (.istore_n 2, 1) := by decide +kernel
theorem dX3_begin_58 : decode cX3_begin 58 = .ok (.iload_n 2, 1) := by decide +kernel
theorem dX3_begin_59 : decode cX3_begin 59 = .ok (.iconst 5, 1) := by decide +kernel
theorem dX3_begin_60 : decode cX3_begin 60 = .ok (.if_icmp .ge 18, 3) := by decide +kernel
theorem dX3_begin_63 : decode cX3_begin 63 = .ok (.aload_n 0, 1) := by decide +kernel
theorem dX3_begin_64 : decode cX3_begin 64 = .ok (.getfield 11, 3) := by decide +kernel
theorem dX3_begin_67 : decode cX3_begin 67 = .ok (.iload_n 2, 1) := by decide +kernel
theorem dX3_begin_68 : decode cX3_begin 68 = .ok (.aaload, 1) := by decide +kernel
theorem dX3_begin_69 : decode cX3_begin 69 = .ok (.invokevirtual 47, 3) := by decide +kernel
theorem dX3_begin_72 : decode cX3_begin 72 = .ok (.iinc 2 1, 3) := by decide +kernel
theorem dX3_begin_75 : decode cX3_begin 75 = .ok (.goto (-17), 3) := by decide +kernel
theorem dX3_begin_78 : decode cX3_begin 78 = .ok (.return_, 1) := by decide +kernel
theorem dX3_unitAt_0 : decode cX3_unitAt 0 = .ok (.iload_n 1, 1) := by decide +kernel
theorem dX3_unitAt_1 : decode cX3_unitAt 1 = .ok (.ifCond .lt 20, 3) := by decide +kernel
theorem dX3_unitAt_4 : decode cX3_unitAt 4 = .ok (.iload_n 1, 1) := by decide +kernel
theorem dX3_unitAt_5 : decode cX3_unitAt 5 = .ok (.aload_n 0, 1) := by decide +kernel
theorem dX3_unitAt_6 : decode cX3_unitAt 6 = .ok (.getfield 25, 3) := by decide +kernel
theorem dX3_unitAt_9 : decode cX3_unitAt 9 = .ok (.if_icmp .ge 12, 3) := by decide +kernel
theorem dX3_unitAt_12 : decode cX3_unitAt 12 = .ok (.aload_n 0, 1) := by decide +kernel
theorem dX3_unitAt_13 : decode cX3_unitAt 13 = .ok (.getfield 11, 3) := by decide +kernel
theorem dX3_unitAt_16 : decode cX3_unitAt 16 = .ok (.iload_n 1, 1) := by decide +kernel
theorem dX3_unitAt_17 : decode cX3_unitAt 17 = .ok (.aaload, 1) := by decide +kernel
theorem dX3_unitAt_18 : decode cX3_unitAt 18 = .ok (.goto 4, 3) := by decide +kernel
theorem dX3_unitAt_21 : decode cX3_unitAt 21 = .ok (.aconst_null, 1) := by decide +kernel
theorem dX3_unitAt_22 : decode cX3_unitAt 22 = .ok (.areturn, 1) := by decide +kernel
theorem dX3_controlledUnitAt_0 : decode cX3_controlledUnitAt 0 = .ok (.iload_n 1, 1) := by decide +kernel
theorem dX3_controlledUnitAt_1 : decode cX3_controlledUnitAt 1 = .ok (.ifCond .ne 7, 3) := by decide +kernel
theorem dX3_controlledUnitAt_4 : decode cX3_controlledUnitAt 4 = .ok (.aconst_null, 1) := by decide +kernel
theorem dX3_controlledUnitAt_5 : decode cX3_controlledUnitAt 5 = .ok (.goto 8, 3) := by decide +kernel
theorem dX3_controlledUnitAt_8 : decode cX3_controlledUnitAt 8 = .ok (.aload_n 0, 1) := by decide +kernel
theorem dX3_controlledUnitAt_9 : decode cX3_controlledUnitAt 9 = .ok (.iload_n 1, 1) := by decide +kernel
theorem dX3_controlledUnitAt_10 : decode cX3_controlledUnitAt 10 = .ok (.invokevirtual 60, 3) := by decide +kernel
theorem dX3_controlledUnitAt_13 : decode cX3_controlledUnitAt 13 = .ok (.areturn, 1) := by decide +kernel
theorem dX3_wayOf_0 : decode cX3_wayOf 0 = .ok (.iconst 0, 1) := by decide +kernel
theorem dX3_wayOf_1 : decode cX3_wayOf 1 = .ok (.istore_n 2, 1) := by decide +kernel
theorem dX3_wayOf_2 : decode cX3_wayOf 2 = .ok (.iconst 1, 1) := by decide +kernel
theorem dX3_wayOf_3 : decode cX3_wayOf 3 = .ok (.istore_n 3, 1) := by decide +kernel
theorem dX3_wayOf_4 : decode cX3_wayOf 4 = .ok (.iload_n 3, 1) := by decide +kernel
theorem dX3_wayOf_5 : decode cX3_wayOf 5 = .ok (.iload_n 1, 1) := by decide +kernel
theorem dX3_wayOf_6 : decode cX3_wayOf 6 = .ok (.if_icmp .gt 30, 3) := by decide +kernel
theorem dX3_wayOf_9 : decode cX3_wayOf 9 = .ok (.iload_n 3, 1) := by decide +kernel
theorem dX3_wayOf_10 : decode cX3_wayOf 10 = .ok (.aload_n 0, 1) := by decide +kernel
theorem dX3_wayOf_11 : decode cX3_wayOf 11 = .ok (.getfield 25, 3) := by decide +kernel
theorem dX3_wayOf_14 : decode cX3_wayOf 14 = .ok (.if_icmp .ge 22, 3) := by decide +kernel
theorem dX3_wayOf_17 : decode cX3_wayOf 17 = .ok (.iload_n 2, 1) := by decide +kernel
theorem dX3_wayOf_18 : decode cX3_wayOf 18 = .ok (.aload_n 0, 1) := by decide +kernel
theorem dX3_wayOf_19 : decode cX3_wayOf 19 = .ok (.getfield 11, 3) := by decide +kernel
theorem dX3_wayOf_22 : decode cX3_wayOf 22 = .ok (.iload_n 3, 1) := by decide +kernel
theorem dX3_wayOf_23 : decode cX3_wayOf 23 = .ok (.aaload, 1) := by decide +kernel
theorem dX3_wayOf_24 : decode cX3_wayOf 24 = .ok (.iconst 0, 1) := by decide +kernel
theorem dX3_wayOf_25 : decode cX3_wayOf 25 = .ok (.invokevirtual 64, 3) := by decide +kernel
theorem dX3_wayOf_28 : decode cX3_wayOf 28 = .ok (.iadd, 1) := by decide +kernel
theorem dX3_wayOf_29 : decode cX3_wayOf 29 = .ok (.istore_n 2, 1) := by decide +kernel
theorem dX3_wayOf_30 : decode cX3_wayOf 30 = .ok (.iinc 3 1, 3) := by decide +kernel
theorem dX3_wayOf_33 : decode cX3_wayOf 33 = .ok (.goto (-29), 3) := by decide +kernel
theorem dX3_wayOf_36 : decode cX3_wayOf 36 = .ok (.iload_n 2, 1) := by decide +kernel
theorem dX3_wayOf_37 : decode cX3_wayOf 37 = .ok (.ireturn, 1) := by decide +kernel
theorem dX3_startSplice_0 : decode cX3_startSplice 0 = .ok (.aload_n 0, 1) := by decide +kernel
theorem dX3_startSplice_1 : decode cX3_startSplice 1 = .ok (.aload_n 0, 1) := by decide +kernel
theorem dX3_startSplice_2 : decode cX3_startSplice 2 = .ok (.getfield 29, 3) := by decide +kernel
theorem dX3_startSplice_5 : decode cX3_startSplice 5 = .ok (.putfield 38, 3) := by decide +kernel
theorem dX3_startSplice_8 : decode cX3_startSplice 8 = .ok (.aload_n 0, 1) := by decide +kernel
theorem dX3_startSplice_9 : decode cX3_startSplice 9 = .ok (.iload_n 1, 1) := by decide +kernel
theorem dX3_startSplice_10 : decode cX3_startSplice 10 = .ok (.putfield 41, 3) := by decide +kernel
theorem dX3_startSplice_13 : decode cX3_startSplice 13 = .ok (.aload_n 0, 1) := by decide +kernel
theorem dX3_startSplice_14 : decode cX3_startSplice 14 = .ok (.iload_n 2, 1) := by decide +kernel
theorem dX3_startSplice_15 : decode cX3_startSplice 15 = .ok (.putfield 44, 3) := by decide +kernel
theorem dX3_startSplice_18 : decode cX3_startSplice 18 = .ok (.return_, 1) := by decide +kernel
theorem dX3_repeatsToLastUnit_0 : decode cX3_repeatsToLastUnit 0 = .ok (.aload_n 0, 1) := by decide +kernel
theorem dX3_repeatsToLastUnit_1 : decode cX3_repeatsToLastUnit 1 = .ok (.getfield 44, 3) := by decide +kernel
theorem dX3_repeatsToLastUnit_4 : decode cX3_repeatsToLastUnit 4 = .ok (.ifCond .ne 5, 3) := by decide +kernel
theorem dX3_repeatsToLastUnit_7 : decode cX3_repeatsToLastUnit 7 = .ok (.iconst 0, 1) := by decide +kernel
theorem dX3_repeatsToLastUnit_8 : decode cX3_repeatsToLastUnit 8 = .ok (.ireturn, 1) := by decide +kernel
theorem dX3_repeatsToLastUnit_9 : decode cX3_repeatsToLastUnit 9 = .ok (.iconst 0, 1) := by decide +kernel
theorem dX3_repeatsToLastUnit_10 : decode cX3_repeatsToLastUnit 10 = .ok (.aload_n 0, 1) := by decide +kernel
theorem dX3_repeatsToLastUnit_11 : decode cX3_repeatsToLastUnit 11 = .ok (.getfield 38, 3) := by decide +kernel
theorem dX3_repeatsToLastUnit_14 : decode cX3_repeatsToLastUnit 14 = .ok (.aload_n 0, 1) := by decide +kernel
theorem dX3_repeatsToLastUnit_15 : decode cX3_repeatsToLastUnit 15 = .ok (.aload_n 0, 1) := by decide +kernel
theorem dX3_repeatsToLastUnit_16 : decode cX3_repeatsToLastUnit 16 = .ok (.getfield 25, 3) := by decide +kernel
theorem dX3_repeatsToLastUnit_19 : decode cX3_repeatsToLastUnit 19 = .ok (.iconst 1, 1) := by decide +kernel
theorem dX3_repeatsToLastUnit_20 : decode cX3_repeatsToLastUnit 20 = .ok (.isub, 1) := by decide +kernel
theorem dX3_repeatsToLastUnit_21 : decode cX3_repeatsToLastUnit 21 = .ok (.invokevirtual 68, 3) := by decide +kernel
theorem dX3_repeatsToLastUnit_24 : decode cX3_repeatsToLastUnit 24 = .ok (.iadd, 1) := by decide +kernel
theorem dX3_repeatsToLastUnit_25 : decode cX3_repeatsToLastUnit 25 = .ok (.iconst 1, 1) := by decide +kernel
theorem dX3_repeatsToLastUnit_26 : decode cX3_repeatsToLastUnit 26 = .ok (.iadd, 1) := by decide +kernel
theorem dX3_repeatsToLastUnit_27 : decode cX3_repeatsToLastUnit 27 = .ok (.aload_n 0, 1) := by decide +kernel
theorem dX3_repeatsToLastUnit_28 : decode cX3_repeatsToLastUnit 28 = .ok (.getfield 29, 3) := by decide +kernel
theorem dX3_repeatsToLastUnit_31 : decode cX3_repeatsToLastUnit 31 = .ok (.isub, 1) := by decide +kernel
theorem dX3_repeatsToLastUnit_32 : decode cX3_repeatsToLastUnit 32 = .ok (.invokestatic 71, 3) := by decide +kernel
theorem dX3_repeatsToLastUnit_35 : decode cX3_repeatsToLastUnit 35 = .ok (.ireturn, 1) := by decide +kernel
theorem dX3_makeRepeat_0 : decode cX3_makeRepeat 0 = .ok (.aload_n 0, 1) := by decide +kernel
theorem dX3_makeRepeat_1 : decode cX3_makeRepeat 1 = .ok (.getfield 32, 3) := by decide +kernel
theorem dX3_makeRepeat_4 : decode cX3_makeRepeat 4 = .ok (.aload_n 0, 1) := by decide +kernel
theorem dX3_makeRepeat_5 : decode cX3_makeRepeat 5 = .ok (.getfield 35, 3) := by decide +kernel
theorem dX3_makeRepeat_8 : decode cX3_makeRepeat 8 = .ok (.isub, 1) := by decide +kernel
theorem dX3_makeRepeat_9 : decode cX3_makeRepeat 9 = .ok (.istore_n 1, 1) := by decide +kernel
theorem dX3_makeRepeat_10 : decode cX3_makeRepeat 10 = .ok (.aload_n 0, 1) := by decide +kernel
theorem dX3_makeRepeat_11 : decode cX3_makeRepeat 11 = .ok (.getfield 17, 3) := by decide +kernel
theorem dX3_makeRepeat_14 : decode cX3_makeRepeat 14 = .ok (.aload_n 0, 1) := by decide +kernel
theorem dX3_makeRepeat_15 : decode cX3_makeRepeat 15 = .ok (.getfield 29, 3) := by decide +kernel
theorem dX3_makeRepeat_18 : decode cX3_makeRepeat 18 = .ok (.bipush 127, 2) := by decide +kernel
theorem dX3_makeRepeat_20 : decode cX3_makeRepeat 20 = .ok (.iand, 1) := by decide +kernel
theorem dX3_makeRepeat_21 : decode cX3_makeRepeat 21 = .ok (.iload_n 1, 1) := by decide +kernel
theorem dX3_makeRepeat_22 : decode cX3_makeRepeat 22 = .ok (.iastore, 1) := by decide +kernel
theorem dX3_makeRepeat_23 : decode cX3_makeRepeat 23 = .ok (.aload_n 0, 1) := by decide +kernel
theorem dX3_makeRepeat_24 : decode cX3_makeRepeat 24 = .ok (.invokevirtual 103, 3) := by decide +kernel
theorem dX3_makeRepeat_27 : decode cX3_makeRepeat 27 = .ok (.iconst 0, 1) := by decide +kernel
theorem dX3_makeRepeat_28 : decode cX3_makeRepeat 28 = .ok (.istore_n 2, 1) := by decide +kernel
theorem dX3_makeRepeat_29 : decode cX3_makeRepeat 29 = .ok (.iload_n 2, 1) := by decide +kernel
theorem dX3_makeRepeat_30 : decode cX3_makeRepeat 30 = .ok (.aload_n 0, 1) := by decide +kernel
theorem dX3_makeRepeat_31 : decode cX3_makeRepeat 31 = .ok (.getfield 25, 3) := by decide +kernel
theorem dX3_makeRepeat_34 : decode cX3_makeRepeat 34 = .ok (.if_icmp .ge 23, 3) := by decide +kernel
theorem dX3_makeRepeat_37 : decode cX3_makeRepeat 37 = .ok (.aload_n 0, 1) := by decide +kernel
theorem dX3_makeRepeat_38 : decode cX3_makeRepeat 38 = .ok (.getfield 11, 3) := by decide +kernel
theorem dX3_makeRepeat_41 : decode cX3_makeRepeat 41 = .ok (.iload_n 2, 1) := by decide +kernel
theorem dX3_makeRepeat_42 : decode cX3_makeRepeat 42 = .ok (.aaload, 1) := by decide +kernel
theorem dX3_makeRepeat_43 : decode cX3_makeRepeat 43 = .ok (.aload_n 0, 1) := by decide +kernel
theorem dX3_makeRepeat_44 : decode cX3_makeRepeat 44 = .ok (.getfield 29, 3) := by decide +kernel
theorem dX3_makeRepeat_47 : decode cX3_makeRepeat 47 = .ok (.iload_n 1, 1) := by decide +kernel
theorem dX3_makeRepeat_48 : decode cX3_makeRepeat 48 = .ok (.invokevirtual 106, 3) := by decide +kernel
theorem dX3_makeRepeat_51 : decode cX3_makeRepeat 51 = .ok (.iinc 2 1, 3) := by decide +kernel
theorem dX3_makeRepeat_54 : decode cX3_makeRepeat 54 = .ok (.goto (-25), 3) := by decide +kernel
theorem dX3_makeRepeat_57 : decode cX3_makeRepeat 57 = .ok (.iconst 0, 1) := by decide +kernel
theorem dX3_makeRepeat_58 : decode cX3_makeRepeat 58 = .ok (.istore_n 2, 1) := by decide +kernel
theorem dX3_makeRepeat_59 : decode cX3_makeRepeat 59 = .ok (.iconst 1, 1) := by decide +kernel
theorem dX3_makeRepeat_60 : decode cX3_makeRepeat 60 = .ok (.istore_n 3, 1) := by decide +kernel
theorem dX3_makeRepeat_61 : decode cX3_makeRepeat 61 = .ok (.iload_n 3, 1) := by decide +kernel
theorem dX3_makeRepeat_62 : decode cX3_makeRepeat 62 = .ok (.aload_n 0, 1) := by decide +kernel
theorem dX3_makeRepeat_63 : decode cX3_makeRepeat 63 = .ok (.getfield 25, 3) := by decide +kernel
theorem dX3_makeRepeat_66 : decode cX3_makeRepeat 66 = .ok (.if_icmp .ge 33, 3) := by decide +kernel
theorem dX3_makeRepeat_69 : decode cX3_makeRepeat 69 = .ok (.iload_n 2, 1) := by decide +kernel
theorem dX3_makeRepeat_70 : decode cX3_makeRepeat 70 = .ok (.aload_n 0, 1) := by decide +kernel
theorem dX3_makeRepeat_71 : decode cX3_makeRepeat 71 = .ok (.getfield 11, 3) := by decide +kernel
theorem dX3_makeRepeat_74 : decode cX3_makeRepeat 74 = .ok (.iload_n 3, 1) := by decide +kernel
theorem dX3_makeRepeat_75 : decode cX3_makeRepeat 75 = .ok (.aaload, 1) := by decide +kernel
theorem dX3_makeRepeat_76 : decode cX3_makeRepeat 76 = .ok (.iconst 0, 1) := by decide +kernel
theorem dX3_makeRepeat_77 : decode cX3_makeRepeat 77 = .ok (.invokevirtual 64, 3) := by decide +kernel
theorem dX3_makeRepeat_80 : decode cX3_makeRepeat 80 = .ok (.iadd, 1) := by decide +kernel
theorem dX3_makeRepeat_81 : decode cX3_makeRepeat 81 = .ok (.istore_n 2, 1) := by decide +kernel
theorem dX3_makeRepeat_82 : decode cX3_makeRepeat 82 = .ok (.aload_n 0, 1) := by decide +kernel
theorem dX3_makeRepeat_83 : decode cX3_makeRepeat 83 = .ok (.aload_n 0, 1) := by decide +kernel
theorem dX3_makeRepeat_84 : decode cX3_makeRepeat 84 = .ok (.getfield 11, 3) := by decide +kernel
theorem dX3_makeRepeat_87 : decode cX3_makeRepeat 87 = .ok (.iload_n 3, 1) := by decide +kernel
theorem dX3_makeRepeat_88 : decode cX3_makeRepeat 88 = .ok (.aaload, 1) := by decide +kernel
theorem dX3_makeRepeat_89 : decode cX3_makeRepeat 89 = .ok (.iload_n 2, 1) := by decide +kernel
theorem dX3_makeRepeat_90 : decode cX3_makeRepeat 90 = .ok (.invokevirtual 109, 3) := by decide +kernel
theorem dX3_makeRepeat_93 : decode cX3_makeRepeat 93 = .ok (.iinc 3 1, 3) := by decide +kernel
theorem dX3_makeRepeat_96 : decode cX3_makeRepeat 96 = .ok (.goto (-35), 3) := by decide +kernel
theorem dX3_makeRepeat_99 : decode cX3_makeRepeat 99 = .ok (.iconst 0, 1) := by decide +kernel
theorem dX3_makeRepeat_100 : decode cX3_makeRepeat 100 = .ok (.istore_n 3, 1) := by decide +kernel
theorem dX3_makeRepeat_101 : decode cX3_makeRepeat 101 = .ok (.iload_n 3, 1) := by decide +kernel
theorem dX3_makeRepeat_102 : decode cX3_makeRepeat 102 = .ok (.aload_n 0, 1) := by decide +kernel
theorem dX3_makeRepeat_103 : decode cX3_makeRepeat 103 = .ok (.getfield 25, 3) := by decide +kernel
theorem dX3_makeRepeat_106 : decode cX3_makeRepeat 106 = .ok (.if_icmp .ge 18, 3) := by decide +kernel
theorem dX3_makeRepeat_109 : decode cX3_makeRepeat 109 = .ok (.aload_n 0, 1) := by decide +kernel
theorem dX3_makeRepeat_110 : decode cX3_makeRepeat 110 = .ok (.getfield 11, 3) := by decide +kernel
theorem dX3_makeRepeat_113 : decode cX3_makeRepeat 113 = .ok (.iload_n 3, 1) := by decide +kernel
theorem dX3_makeRepeat_114 : decode cX3_makeRepeat 114 = .ok (.aaload, 1) := by decide +kernel
theorem dX3_makeRepeat_115 : decode cX3_makeRepeat 115 = .ok (.invokevirtual 113, 3) := by decide +kernel
theorem dX3_makeRepeat_118 : decode cX3_makeRepeat 118 = .ok (.iinc 3 1, 3) := by decide +kernel
theorem dX3_makeRepeat_121 : decode cX3_makeRepeat 121 = .ok (.goto (-20), 3) := by decide +kernel
theorem dX3_makeRepeat_124 : decode cX3_makeRepeat 124 = .ok (.aload_n 0, 1) := by decide +kernel
theorem dX3_makeRepeat_125 : decode cX3_makeRepeat 125 = .ok (.aload_n 0, 1) := by decide +kernel
theorem dX3_makeRepeat_126 : decode cX3_makeRepeat 126 = .ok (.getfield 32, 3) := by decide +kernel
theorem dX3_makeRepeat_129 : decode cX3_makeRepeat 129 = .ok (.putfield 35, 3) := by decide +kernel
theorem dX3_makeRepeat_132 : decode cX3_makeRepeat 132 = .ok (.aload_n 0, 1) := by decide +kernel
theorem dX3_makeRepeat_133 : decode cX3_makeRepeat 133 = .ok (.dup, 1) := by decide +kernel
theorem dX3_makeRepeat_134 : decode cX3_makeRepeat 134 = .ok (.getfield 29, 3) := by decide +kernel
theorem dX3_makeRepeat_137 : decode cX3_makeRepeat 137 = .ok (.iconst 1, 1) := by decide +kernel
theorem dX3_makeRepeat_138 : decode cX3_makeRepeat 138 = .ok (.iadd, 1) := by decide +kernel
theorem dX3_makeRepeat_139 : decode cX3_makeRepeat 139 = .ok (.putfield 29, 3) := by decide +kernel
theorem dX3_makeRepeat_142 : decode cX3_makeRepeat 142 = .ok (.return_, 1) := by decide +kernel
theorem dX3_bringSplice_0 : decode cX3_bringSplice 0 = .ok (.aload_n 0, 1) := by decide +kernel
theorem dX3_bringSplice_1 : decode cX3_bringSplice 1 = .ok (.getfield 44, 3) := by decide +kernel
theorem dX3_bringSplice_4 : decode cX3_bringSplice 4 = .ok (.ifCond .ne 4, 3) := by decide +kernel
theorem dX3_bringSplice_7 : decode cX3_bringSplice 7 = .ok (.return_, 1) := by decide +kernel
theorem dX3_bringSplice_8 : decode cX3_bringSplice 8 = .ok (.iconst 0, 1) := by decide +kernel
theorem dX3_bringSplice_9 : decode cX3_bringSplice 9 = .ok (.istore_n 1, 1) := by decide +kernel
theorem dX3_bringSplice_10 : decode cX3_bringSplice 10 = .ok (.iconst 0, 1) := by decide +kernel
theorem dX3_bringSplice_11 : decode cX3_bringSplice 11 = .ok (.istore_n 2, 1) := by decide +kernel
theorem dX3_bringSplice_12 : decode cX3_bringSplice 12 = .ok (.iload_n 2, 1) := by decide +kernel
theorem dX3_bringSplice_13 : decode cX3_bringSplice 13 = .ok (.aload_n 0, 1) := by decide +kernel
theorem dX3_bringSplice_14 : decode cX3_bringSplice 14 = .ok (.getfield 25, 3) := by decide +kernel
theorem dX3_bringSplice_17 : decode cX3_bringSplice 17 = .ok (.if_icmp .ge 56, 3) := by decide +kernel
theorem dX3_bringSplice_20 : decode cX3_bringSplice 20 = .ok (.iload_n 2, 1) := by decide +kernel
theorem dX3_bringSplice_21 : decode cX3_bringSplice 21 = .ok (.ifCond .le 16, 3) := by decide +kernel
theorem dX3_bringSplice_24 : decode cX3_bringSplice 24 = .ok (.iload_n 1, 1) := by decide +kernel
theorem dX3_bringSplice_25 : decode cX3_bringSplice 25 = .ok (.aload_n 0, 1) := by decide +kernel
theorem dX3_bringSplice_26 : decode cX3_bringSplice 26 = .ok (.getfield 11, 3) := by decide +kernel
theorem dX3_bringSplice_29 : decode cX3_bringSplice 29 = .ok (.iload_n 2, 1) := by decide +kernel
theorem dX3_bringSplice_30 : decode cX3_bringSplice 30 = .ok (.aaload, 1) := by decide +kernel
theorem dX3_bringSplice_31 : decode cX3_bringSplice 31 = .ok (.iconst 0, 1) := by decide +kernel
theorem dX3_bringSplice_32 : decode cX3_bringSplice 32 = .ok (.invokevirtual 64, 3) := by decide +kernel
theorem dX3_bringSplice_35 : decode cX3_bringSplice 35 = .ok (.iadd, 1) := by decide +kernel
theorem dX3_bringSplice_36 : decode cX3_bringSplice 36 = .ok (.istore_n 1, 1) := by decide +kernel
theorem dX3_bringSplice_37 : decode cX3_bringSplice 37 = .ok (.aload_n 0, 1) := by decide +kernel
theorem dX3_bringSplice_38 : decode cX3_bringSplice 38 = .ok (.getfield 29, 3) := by decide +kernel
theorem dX3_bringSplice_41 : decode cX3_bringSplice 41 = .ok (.aload_n 0, 1) := by decide +kernel
theorem dX3_bringSplice_42 : decode cX3_bringSplice 42 = .ok (.getfield 38, 3) := by decide +kernel
theorem dX3_bringSplice_45 : decode cX3_bringSplice 45 = .ok (.iload_n 1, 1) := by decide +kernel
theorem dX3_bringSplice_46 : decode cX3_bringSplice 46 = .ok (.iadd, 1) := by decide +kernel
theorem dX3_bringSplice_47 : decode cX3_bringSplice 47 = .ok (.if_icmp .ne 20, 3) := by decide +kernel
theorem dX3_bringSplice_50 : decode cX3_bringSplice 50 = .ok (.aload_n 0, 1) := by decide +kernel
theorem dX3_bringSplice_51 : decode cX3_bringSplice 51 = .ok (.getfield 11, 3) := by decide +kernel
theorem dX3_bringSplice_54 : decode cX3_bringSplice 54 = .ok (.iload_n 2, 1) := by decide +kernel
theorem dX3_bringSplice_55 : decode cX3_bringSplice 55 = .ok (.aaload, 1) := by decide +kernel
theorem dX3_bringSplice_56 : decode cX3_bringSplice 56 = .ok (.aload_n 0, 1) := by decide +kernel
theorem dX3_bringSplice_57 : decode cX3_bringSplice 57 = .ok (.getfield 41, 3) := by decide +kernel
theorem dX3_bringSplice_60 : decode cX3_bringSplice 60 = .ok (.aload_n 0, 1) := by decide +kernel
theorem dX3_bringSplice_61 : decode cX3_bringSplice 61 = .ok (.getfield 44, 3) := by decide +kernel
theorem dX3_bringSplice_64 : decode cX3_bringSplice 64 = .ok (.invokevirtual 116, 3) := by decide +kernel
theorem dX3_bringSplice_67 : decode cX3_bringSplice 67 = .ok (.iinc 2 1, 3) := by decide +kernel
theorem dX3_bringSplice_70 : decode cX3_bringSplice 70 = .ok (.goto (-58), 3) := by decide +kernel
theorem dX3_bringSplice_73 : decode cX3_bringSplice 73 = .ok (.return_, 1) := by decide +kernel
theorem dX3_watchUnit_0 : decode cX3_watchUnit 0 = .ok (.aload_n 0, 1) := by decide +kernel
theorem dX3_watchUnit_1 : decode cX3_watchUnit 1 = .ok (.getfield 29, 3) := by decide +kernel
theorem dX3_watchUnit_4 : decode cX3_watchUnit 4 = .ok (.aload_n 1, 1) := by decide +kernel
theorem dX3_watchUnit_5 : decode cX3_watchUnit 5 = .ok (.iconst 1, 1) := by decide +kernel
theorem dX3_watchUnit_6 : decode cX3_watchUnit 6 = .ok (.invokevirtual 64, 3) := by decide +kernel
theorem dX3_watchUnit_9 : decode cX3_watchUnit 9 = .ok (.isub, 1) := by decide +kernel
theorem dX3_watchUnit_10 : decode cX3_watchUnit 10 = .ok (.istore_n 3, 1) := by decide +kernel
theorem dX3_watchUnit_11 : decode cX3_watchUnit 11 = .ok (.iload_n 3, 1) := by decide +kernel
theorem dX3_watchUnit_12 : decode cX3_watchUnit 12 = .ok (.iload_n 2, 1) := by decide +kernel
theorem dX3_watchUnit_13 : decode cX3_watchUnit 13 = .ok (.isub, 1) := by decide +kernel
theorem dX3_watchUnit_14 : decode cX3_watchUnit 14 = .ok (.istore 4, 2) := by decide +kernel
theorem dX3_watchUnit_16 : decode cX3_watchUnit 16 = .ok (.iload 4, 2) := by decide +kernel
theorem dX3_watchUnit_18 : decode cX3_watchUnit 18 = .ok (.ifCond .ge 11, 3) := by decide +kernel
theorem dX3_watchUnit_21 : decode cX3_watchUnit 21 = .ok (.aload_n 1, 1) := by decide +kernel
theorem dX3_watchUnit_22 : decode cX3_watchUnit 22 = .ok (.getfield 77, 3) := by decide +kernel
theorem dX3_watchUnit_25 : decode cX3_watchUnit 25 = .ok (.invokevirtual 119, 3) := by decide +kernel
theorem dX3_watchUnit_28 : decode cX3_watchUnit 28 = .ok (.return_, 1) := by decide +kernel
theorem dX3_watchUnit_29 : decode cX3_watchUnit 29 = .ok (.aload_n 1, 1) := by decide +kernel
theorem dX3_watchUnit_30 : decode cX3_watchUnit 30 = .ok (.getfield 122, 3) := by decide +kernel
theorem dX3_watchUnit_33 : decode cX3_watchUnit 33 = .ok (.iload_n 3, 1) := by decide +kernel
theorem dX3_watchUnit_34 : decode cX3_watchUnit 34 = .ok (.invokevirtual 126, 3) := by decide +kernel
theorem dX3_watchUnit_37 : decode cX3_watchUnit 37 = .ok (.aload_n 0, 1) := by decide +kernel
theorem dX3_watchUnit_38 : decode cX3_watchUnit 38 = .ok (.getfield 11, 3) := by decide +kernel
theorem dX3_watchUnit_41 : decode cX3_watchUnit 41 = .ok (.iconst 0, 1) := by decide +kernel
theorem dX3_watchUnit_42 : decode cX3_watchUnit 42 = .ok (.aaload, 1) := by decide +kernel
theorem dX3_watchUnit_43 : decode cX3_watchUnit 43 = .ok (.getfield 122, 3) := by decide +kernel
theorem dX3_watchUnit_46 : decode cX3_watchUnit 46 = .ok (.iload 4, 2) := by decide +kernel
theorem dX3_watchUnit_48 : decode cX3_watchUnit 48 = .ok (.invokevirtual 126, 3) := by decide +kernel
theorem dX3_watchUnit_51 : decode cX3_watchUnit 51 = .ok (.isub, 1) := by decide +kernel
theorem dX3_watchUnit_52 : decode cX3_watchUnit 52 = .ok (.istore 5, 2) := by decide +kernel
theorem dX3_watchUnit_54 : decode cX3_watchUnit 54 = .ok (.aload_n 1, 1) := by decide +kernel
theorem dX3_watchUnit_55 : decode cX3_watchUnit 55 = .ok (.getfield 77, 3) := by decide +kernel
theorem dX3_watchUnit_58 : decode cX3_watchUnit 58 = .ok (.iload 5, 2) := by decide +kernel
theorem dX3_watchUnit_60 : decode cX3_watchUnit 60 = .ok (.aload_n 1, 1) := by decide +kernel
theorem dX3_watchUnit_61 : decode cX3_watchUnit 61 = .ok (.getfield 122, 3) := by decide +kernel
theorem dX3_watchUnit_64 : decode cX3_watchUnit 64 = .ok (.iload_n 3, 1) := by decide +kernel
theorem dX3_watchUnit_65 : decode cX3_watchUnit 65 = .ok (.invokevirtual 131, 3) := by decide +kernel
theorem dX3_watchUnit_68 : decode cX3_watchUnit 68 = .ok (.invokevirtual 134, 3) := by decide +kernel
theorem dX3_watchUnit_71 : decode cX3_watchUnit 71 = .ok (.aload_n 1, 1) := by decide +kernel
theorem dX3_watchUnit_72 : decode cX3_watchUnit 72 = .ok (.invokevirtual 137, 3) := by decide +kernel
theorem dX3_watchUnit_75 : decode cX3_watchUnit 75 = .ok (.ifCond .eq 51, 3) := by decide +kernel
theorem dX3_watchUnit_78 : decode cX3_watchUnit 78 = .ok (.aload_n 0, 1) := by decide +kernel
theorem dX3_watchUnit_79 : decode cX3_watchUnit 79 = .ok (.getfield 21, 3) := by decide +kernel
theorem dX3_watchUnit_82 : decode cX3_watchUnit 82 = .ok (.iconst 0, 1) := by decide +kernel
theorem dX3_watchUnit_83 : decode cX3_watchUnit 83 = .ok (.dup2, 1) := by decide +kernel
theorem dX3_watchUnit_84 : decode cX3_watchUnit 84 = .ok (.iaload, 1) := by decide +kernel
theorem dX3_watchUnit_85 : decode cX3_watchUnit 85 = .ok (.iconst 1, 1) := by decide +kernel
theorem dX3_watchUnit_86 : decode cX3_watchUnit 86 = .ok (.iadd, 1) := by decide +kernel
theorem dX3_watchUnit_87 : decode cX3_watchUnit 87 = .ok (.iastore, 1) := by decide +kernel
theorem dX3_watchUnit_88 : decode cX3_watchUnit 88 = .ok (.aload_n 1, 1) := by decide +kernel
theorem dX3_watchUnit_89 : decode cX3_watchUnit 89 = .ok (.getfield 77, 3) := by decide +kernel
theorem dX3_watchUnit_92 : decode cX3_watchUnit 92 = .ok (.getfield 141, 3) := by decide +kernel
theorem dX3_watchUnit_95 : decode cX3_watchUnit 95 = .ok (.iconst 2, 1) := by decide +kernel
theorem dX3_watchUnit_96 : decode cX3_watchUnit 96 = .ok (.if_icmp .ne 13, 3) := by decide +kernel
theorem dX3_watchUnit_99 : decode cX3_watchUnit 99 = .ok (.aload_n 0, 1) := by decide +kernel
theorem dX3_watchUnit_100 : decode cX3_watchUnit 100 = .ok (.getfield 21, 3) := by decide +kernel
theorem dX3_watchUnit_103 : decode cX3_watchUnit 103 = .ok (.iconst 1, 1) := by decide +kernel
theorem dX3_watchUnit_104 : decode cX3_watchUnit 104 = .ok (.dup2, 1) := by decide +kernel
theorem dX3_watchUnit_105 : decode cX3_watchUnit 105 = .ok (.iaload, 1) := by decide +kernel
theorem dX3_watchUnit_106 : decode cX3_watchUnit 106 = .ok (.iconst 1, 1) := by decide +kernel
theorem dX3_watchUnit_107 : decode cX3_watchUnit 107 = .ok (.iadd, 1) := by decide +kernel
theorem dX3_watchUnit_108 : decode cX3_watchUnit 108 = .ok (.iastore, 1) := by decide +kernel
theorem dX3_watchUnit_109 : decode cX3_watchUnit 109 = .ok (.aload_n 0, 1) := by decide +kernel
theorem dX3_watchUnit_110 : decode cX3_watchUnit 110 = .ok (.aload_n 1, 1) := by decide +kernel
theorem dX3_watchUnit_111 : decode cX3_watchUnit 111 = .ok (.aload_n 0, 1) := by decide +kernel
theorem dX3_watchUnit_112 : decode cX3_watchUnit 112 = .ok (.getfield 17, 3) := by decide +kernel
theorem dX3_watchUnit_115 : decode cX3_watchUnit 115 = .ok (.iload_n 3, 1) := by decide +kernel
theorem dX3_watchUnit_116 : decode cX3_watchUnit 116 = .ok (.bipush 127, 2) := by decide +kernel
theorem dX3_watchUnit_118 : decode cX3_watchUnit 118 = .ok (.iand, 1) := by decide +kernel
theorem dX3_watchUnit_119 : decode cX3_watchUnit 119 = .ok (.iaload, 1) := by decide +kernel
theorem dX3_watchUnit_120 : decode cX3_watchUnit 120 = .ok (.invokevirtual 144, 3) := by decide +kernel
theorem dX3_watchUnit_123 : decode cX3_watchUnit 123 = .ok (.goto 13, 3) := by decide +kernel
theorem dX3_watchUnit_126 : decode cX3_watchUnit 126 = .ok (.aload_n 0, 1) := by decide +kernel
theorem dX3_watchUnit_127 : decode cX3_watchUnit 127 = .ok (.getfield 21, 3) := by decide +kernel
theorem dX3_watchUnit_130 : decode cX3_watchUnit 130 = .ok (.iconst 2, 1) := by decide +kernel
theorem dX3_watchUnit_131 : decode cX3_watchUnit 131 = .ok (.dup2, 1) := by decide +kernel
theorem dX3_watchUnit_132 : decode cX3_watchUnit 132 = .ok (.iaload, 1) := by decide +kernel
theorem dX3_watchUnit_133 : decode cX3_watchUnit 133 = .ok (.iconst 1, 1) := by decide +kernel
theorem dX3_watchUnit_134 : decode cX3_watchUnit 134 = .ok (.iadd, 1) := by decide +kernel
theorem dX3_watchUnit_135 : decode cX3_watchUnit 135 = .ok (.iastore, 1) := by decide +kernel
theorem dX3_watchUnit_136 : decode cX3_watchUnit 136 = .ok (.return_, 1) := by decide +kernel
theorem dX3_control_0 : decode cX3_control 0 = .ok (.aload_n 1, 1) := by decide +kernel
theorem dX3_control_1 : decode cX3_control 1 = .ok (.iload_n 2, 1) := by decide +kernel
theorem dX3_control_2 : decode cX3_control 2 = .ok (.invokevirtual 147, 3) := by decide +kernel
theorem dX3_control_5 : decode cX3_control 5 = .ok (.ifCond .eq 13, 3) := by decide +kernel
theorem dX3_control_8 : decode cX3_control 8 = .ok (.aload_n 0, 1) := by decide +kernel
theorem dX3_control_9 : decode cX3_control 9 = .ok (.getfield 21, 3) := by decide +kernel
theorem dX3_control_12 : decode cX3_control 12 = .ok (.iconst 5, 1) := by decide +kernel
theorem dX3_control_13 : decode cX3_control 13 = .ok (.dup2, 1) := by decide +kernel
theorem dX3_control_14 : decode cX3_control 14 = .ok (.iaload, 1) := by decide +kernel
theorem dX3_control_15 : decode cX3_control 15 = .ok (.iconst 1, 1) := by decide +kernel
theorem dX3_control_16 : decode cX3_control 16 = .ok (.iadd, 1) := by decide +kernel
theorem dX3_control_17 : decode cX3_control 17 = .ok (.iastore, 1) := by decide +kernel
theorem dX3_control_18 : decode cX3_control 18 = .ok (.aload_n 1, 1) := by decide +kernel
theorem dX3_control_19 : decode cX3_control 19 = .ok (.invokevirtual 151, 3) := by decide +kernel
theorem dX3_control_22 : decode cX3_control 22 = .ok (.aload_n 1, 1) := by decide +kernel
theorem dX3_control_23 : decode cX3_control 23 = .ok (.getfield 154, 3) := by decide +kernel
theorem dX3_control_26 : decode cX3_control 26 = .ok (.getfield 158, 3) := by decide +kernel
theorem dX3_control_29 : decode cX3_control 29 = .ok (.ifCond .eq 4, 3) := by decide +kernel
theorem dX3_control_32 : decode cX3_control 32 = .ok (.return_, 1) := by decide +kernel
theorem dX3_control_33 : decode cX3_control 33 = .ok (.aload_n 1, 1) := by decide +kernel
theorem dX3_control_34 : decode cX3_control 34 = .ok (.aload_n 1, 1) := by decide +kernel
theorem dX3_control_35 : decode cX3_control 35 = .ok (.getfield 77, 3) := by decide +kernel
theorem dX3_control_38 : decode cX3_control 38 = .ok (.getfield 163, 3) := by decide +kernel
theorem dX3_control_41 : decode cX3_control 41 = .ok (.invokevirtual 166, 3) := by decide +kernel
theorem dX3_control_44 : decode cX3_control 44 = .ok (.istore_n 3, 1) := by decide +kernel
theorem dX3_control_45 : decode cX3_control 45 = .ok (.aload_n 1, 1) := by decide +kernel
theorem dX3_control_46 : decode cX3_control 46 = .ok (.aload_n 1, 1) := by decide +kernel
theorem dX3_control_47 : decode cX3_control 47 = .ok (.getfield 77, 3) := by decide +kernel
theorem dX3_control_50 : decode cX3_control 50 = .ok (.getfield 169, 3) := by decide +kernel
theorem dX3_control_53 : decode cX3_control 53 = .ok (.invokevirtual 166, 3) := by decide +kernel
theorem dX3_control_56 : decode cX3_control 56 = .ok (.istore 4, 2) := by decide +kernel
theorem dX3_control_58 : decode cX3_control 58 = .ok (.iload_n 3, 1) := by decide +kernel
theorem dX3_control_59 : decode cX3_control 59 = .ok (.ifCond .ne 9, 3) := by decide +kernel
theorem dX3_control_62 : decode cX3_control 62 = .ok (.iload 4, 2) := by decide +kernel
theorem dX3_control_64 : decode cX3_control 64 = .ok (.ifCond .ne 4, 3) := by decide +kernel
theorem dX3_control_67 : decode cX3_control 67 = .ok (.return_, 1) := by decide +kernel
theorem dX3_control_68 : decode cX3_control 68 = .ok (.aload_n 1, 1) := by decide +kernel
theorem dX3_control_69 : decode cX3_control 69 = .ok (.getfield 154, 3) := by decide +kernel
theorem dX3_control_72 : decode cX3_control 72 = .ok (.iload_n 3, 1) := by decide +kernel
theorem dX3_control_73 : decode cX3_control 73 = .ok (.ifCond .eq 10, 3) := by decide +kernel
theorem dX3_control_76 : decode cX3_control 76 = .ok (.aload_n 1, 1) := by decide +kernel
theorem dX3_control_77 : decode cX3_control 77 = .ok (.invokevirtual 172, 3) := by decide +kernel
theorem dX3_control_80 : decode cX3_control 80 = .ok (.goto 4, 3) := by decide +kernel
theorem dX3_control_83 : decode cX3_control 83 = .ok (.iconst 0, 1) := by decide +kernel
theorem dX3_control_84 : decode cX3_control 84 = .ok (.putfield 176, 3) := by decide +kernel
theorem dX3_control_87 : decode cX3_control 87 = .ok (.aload_n 1, 1) := by decide +kernel
theorem dX3_control_88 : decode cX3_control 88 = .ok (.getfield 154, 3) := by decide +kernel
theorem dX3_control_91 : decode cX3_control 91 = .ok (.iload 4, 2) := by decide +kernel
theorem dX3_control_93 : decode cX3_control 93 = .ok (.ifCond .eq 10, 3) := by decide +kernel
theorem dX3_control_96 : decode cX3_control 96 = .ok (.aload_n 1, 1) := by decide +kernel
theorem dX3_control_97 : decode cX3_control 97 = .ok (.invokevirtual 179, 3) := by decide +kernel
theorem dX3_control_100 : decode cX3_control 100 = .ok (.goto 4, 3) := by decide +kernel
theorem dX3_control_103 : decode cX3_control 103 = .ok (.iconst 0, 1) := by decide +kernel
theorem dX3_control_104 : decode cX3_control 104 = .ok (.putfield 182, 3) := by decide +kernel
theorem dX3_control_107 : decode cX3_control 107 = .ok (.aload_n 1, 1) := by decide +kernel
theorem dX3_control_108 : decode cX3_control 108 = .ok (.getfield 154, 3) := by decide +kernel
theorem dX3_control_111 : decode cX3_control 111 = .ok (.aload_n 1, 1) := by decide +kernel
theorem dX3_control_112 : decode cX3_control 112 = .ok (.iconst 1, 1) := by decide +kernel
theorem dX3_control_113 : decode cX3_control 113 = .ok (.invokevirtual 64, 3) := by decide +kernel
theorem dX3_control_116 : decode cX3_control 116 = .ok (.iconst 1, 1) := by decide +kernel
theorem dX3_control_117 : decode cX3_control 117 = .ok (.iadd, 1) := by decide +kernel
theorem dX3_control_118 : decode cX3_control 118 = .ok (.putfield 158, 3) := by decide +kernel
theorem dX3_control_121 : decode cX3_control 121 = .ok (.iload_n 3, 1) := by decide +kernel
theorem dX3_control_122 : decode cX3_control 122 = .ok (.ifCond .eq 13, 3) := by decide +kernel
theorem dX3_control_125 : decode cX3_control 125 = .ok (.aload_n 0, 1) := by decide +kernel
theorem dX3_control_126 : decode cX3_control 126 = .ok (.getfield 21, 3) := by decide +kernel
theorem dX3_control_129 : decode cX3_control 129 = .ok (.iconst 3, 1) := by decide +kernel
theorem dX3_control_130 : decode cX3_control 130 = .ok (.dup2, 1) := by decide +kernel
theorem dX3_control_131 : decode cX3_control 131 = .ok (.iaload, 1) := by decide +kernel
theorem dX3_control_132 : decode cX3_control 132 = .ok (.iconst 1, 1) := by decide +kernel
theorem dX3_control_133 : decode cX3_control 133 = .ok (.iadd, 1) := by decide +kernel
theorem dX3_control_134 : decode cX3_control 134 = .ok (.iastore, 1) := by decide +kernel
theorem dX3_control_135 : decode cX3_control 135 = .ok (.iload 4, 2) := by decide +kernel
theorem dX3_control_137 : decode cX3_control 137 = .ok (.ifCond .eq 13, 3) := by decide +kernel
theorem dX3_control_140 : decode cX3_control 140 = .ok (.aload_n 0, 1) := by decide +kernel
theorem dX3_control_141 : decode cX3_control 141 = .ok (.getfield 21, 3) := by decide +kernel
theorem dX3_control_144 : decode cX3_control 144 = .ok (.iconst 4, 1) := by decide +kernel
theorem dX3_control_145 : decode cX3_control 145 = .ok (.dup2, 1) := by decide +kernel
theorem dX3_control_146 : decode cX3_control 146 = .ok (.iaload, 1) := by decide +kernel
theorem dX3_control_147 : decode cX3_control 147 = .ok (.iconst 1, 1) := by decide +kernel
theorem dX3_control_148 : decode cX3_control 148 = .ok (.iadd, 1) := by decide +kernel
theorem dX3_control_149 : decode cX3_control 149 = .ok (.iastore, 1) := by decide +kernel
theorem dX3_control_150 : decode cX3_control 150 = .ok (.return_, 1) := by decide +kernel
theorem dX4_init_0 : decode cX4_init 0 = .ok (.aload_n 0, 1) := by decide +kernel
theorem dX4_init_1 : decode cX4_init 1 = .ok (.invokespecial 3, 3) := by decide +kernel
theorem dX4_init_4 : decode cX4_init 4 = .ok (.aload_n 0, 1) := by decide +kernel
theorem dX4_init_5 : decode cX4_init 5 = .ok (.sipush 128, 3) := by decide +kernel
theorem dX4_init_8 : decode cX4_init 8 = .ok (.newarray .int, 2) := by decide +kernel
theorem dX4_init_10 : decode cX4_init 10 = .ok (.putfield 9, 3) := by decide +kernel
theorem dX4_init_13 : decode cX4_init 13 = .ok (.aload_n 0, 1) := by decide +kernel
theorem dX4_init_14 : decode cX4_init 14 = .ok (.sipush 128, 3) := by decide +kernel
theorem dX4_init_17 : decode cX4_init 17 = .ok (.newarray .int, 2) := by decide +kernel
theorem dX4_init_19 : decode cX4_init 19 = .ok (.putfield 15, 3) := by decide +kernel
theorem dX4_init_22 : decode cX4_init 22 = .ok (.return_, 1) := by decide +kernel
theorem dX4_begin_0 : decode cX4_begin 0 = .ok (.aload_n 0, 1) := by decide +kernel
theorem dX4_begin_1 : decode cX4_begin 1 = .ok (.iconst 0, 1) := by decide +kernel
theorem dX4_begin_2 : decode cX4_begin 2 = .ok (.putfield 18, 3) := by decide +kernel
theorem dX4_begin_5 : decode cX4_begin 5 = .ok (.aload_n 0, 1) := by decide +kernel
theorem dX4_begin_6 : decode cX4_begin 6 = .ok (.iconst 0, 1) := by decide +kernel
theorem dX4_begin_7 : decode cX4_begin 7 = .ok (.putfield 22, 3) := by decide +kernel
theorem dX4_begin_10 : decode cX4_begin 10 = .ok (.aload_n 0, 1) := by decide +kernel
theorem dX4_begin_11 : decode cX4_begin 11 = .ok (.iconst 0, 1) := by decide +kernel
theorem dX4_begin_12 : decode cX4_begin 12 = .ok (.putfield 25, 3) := by decide +kernel
theorem dX4_begin_15 : decode cX4_begin 15 = .ok (.aload_n 0, 1) := by decide +kernel
theorem dX4_begin_16 : decode cX4_begin 16 = .ok (.iconst 0, 1) := by decide +kernel
theorem dX4_begin_17 : decode cX4_begin 17 = .ok (.putfield 28, 3) := by decide +kernel
theorem dX4_begin_20 : decode cX4_begin 20 = .ok (.aload_n 0, 1) := by decide +kernel
theorem dX4_begin_21 : decode cX4_begin 21 = .ok (.iconst 0, 1) := by decide +kernel
theorem dX4_begin_22 : decode cX4_begin 22 = .ok (.putfield 31, 3) := by decide +kernel
theorem dX4_begin_25 : decode cX4_begin 25 = .ok (.aload_n 0, 1) := by decide +kernel
theorem dX4_begin_26 : decode cX4_begin 26 = .ok (.iconst 0, 1) := by decide +kernel
theorem dX4_begin_27 : decode cX4_begin 27 = .ok (.putfield 34, 3) := by decide +kernel
theorem dX4_begin_30 : decode cX4_begin 30 = .ok (.return_, 1) := by decide +kernel
theorem dX4_byHand_0 : decode cX4_byHand 0 = .ok (.iload_n 1, 1) := by decide +kernel
theorem dX4_byHand_1 : decode cX4_byHand 1 = .ok (.lookupswitch 37 #[(0, 27), (1, 32)], 27) := by decide +kernel
theorem dX4_byHand_28 : decode cX4_byHand 28 = .ok (.aload_n 0, 1) := by decide +kernel
theorem dX4_byHand_29 : decode cX4_byHand 29 = .ok (.getfield 18, 3) := by decide +kernel
theorem dX4_byHand_32 : decode cX4_byHand 32 = .ok (.ireturn, 1) := by decide +kernel
theorem dX4_byHand_33 : decode cX4_byHand 33 = .ok (.aload_n 0, 1) := by decide +kernel
theorem dX4_byHand_34 : decode cX4_byHand 34 = .ok (.getfield 22, 3) := by decide +kernel
theorem dX4_byHand_37 : decode cX4_byHand 37 = .ok (.ireturn, 1) := by decide +kernel
theorem dX4_byHand_38 : decode cX4_byHand 38 = .ok (.aload_n 0, 1) := by decide +kernel
theorem dX4_byHand_39 : decode cX4_byHand 39 = .ok (.getfield 25, 3) := by decide +kernel
theorem dX4_byHand_42 : decode cX4_byHand 42 = .ok (.ireturn, 1) := by decide +kernel
theorem dX4_changeByHand_0 : decode cX4_changeByHand 0 = .ok (.iload_n 1, 1) := by decide +kernel
theorem dX4_changeByHand_1 : decode cX4_changeByHand 1 = .ok (.lookupswitch 43 #[(0, 27), (1, 35)], 27) := by decide +kernel
theorem dX4_changeByHand_28 : decode cX4_changeByHand 28 = .ok (.aload_n 0, 1) := by decide +kernel
theorem dX4_changeByHand_29 : decode cX4_changeByHand 29 = .ok (.iload_n 2, 1) := by decide +kernel
theorem dX4_changeByHand_30 : decode cX4_changeByHand 30 = .ok (.putfield 18, 3) := by decide +kernel
theorem dX4_changeByHand_33 : decode cX4_changeByHand 33 = .ok (.goto 16, 3) := by decide +kernel
theorem dX4_changeByHand_36 : decode cX4_changeByHand 36 = .ok (.aload_n 0, 1) := by decide +kernel
theorem dX4_changeByHand_37 : decode cX4_changeByHand 37 = .ok (.iload_n 2, 1) := by decide +kernel
theorem dX4_changeByHand_38 : decode cX4_changeByHand 38 = .ok (.putfield 22, 3) := by decide +kernel
theorem dX4_changeByHand_41 : decode cX4_changeByHand 41 = .ok (.goto 8, 3) := by decide +kernel
theorem dX4_changeByHand_44 : decode cX4_changeByHand 44 = .ok (.aload_n 0, 1) := by decide +kernel
theorem dX4_changeByHand_45 : decode cX4_changeByHand 45 = .ok (.iload_n 2, 1) := by decide +kernel
theorem dX4_changeByHand_46 : decode cX4_changeByHand 46 = .ok (.putfield 25, 3) := by decide +kernel
theorem dX4_changeByHand_49 : decode cX4_changeByHand 49 = .ok (.return_, 1) := by decide +kernel
theorem dX4_beDisturbed_0 : decode cX4_beDisturbed 0 = .ok (.aload_n 0, 1) := by decide +kernel
theorem dX4_beDisturbed_1 : decode cX4_beDisturbed 1 = .ok (.iload_n 1, 1) := by decide +kernel
theorem dX4_beDisturbed_2 : decode cX4_beDisturbed 2 = .ok (.putfield 28, 3) := by decide +kernel
theorem dX4_beDisturbed_5 : decode cX4_beDisturbed 5 = .ok (.aload_n 0, 1) := by decide +kernel
theorem dX4_beDisturbed_6 : decode cX4_beDisturbed 6 = .ok (.iload_n 2, 1) := by decide +kernel
theorem dX4_beDisturbed_7 : decode cX4_beDisturbed 7 = .ok (.putfield 31, 3) := by decide +kernel
theorem dX4_beDisturbed_10 : decode cX4_beDisturbed 10 = .ok (.aload_n 0, 1) := by decide +kernel
theorem dX4_beDisturbed_11 : decode cX4_beDisturbed 11 = .ok (.iload_n 2, 1) := by decide +kernel
theorem dX4_beDisturbed_12 : decode cX4_beDisturbed 12 = .ok (.putfield 34, 3) := by decide +kernel
theorem dX4_beDisturbed_15 : decode cX4_beDisturbed 15 = .ok (.return_, 1) := by decide +kernel
theorem dX4_disturbance_0 : decode cX4_disturbance 0 = .ok (.aload_n 0, 1) := by decide +kernel
theorem dX4_disturbance_1 : decode cX4_disturbance 1 = .ok (.getfield 34, 3) := by decide +kernel
theorem dX4_disturbance_4 : decode cX4_disturbance 4 = .ok (.ifCond .le 10, 3) := by decide +kernel
theorem dX4_disturbance_7 : decode cX4_disturbance 7 = .ok (.aload_n 0, 1) := by decide +kernel
theorem dX4_disturbance_8 : decode cX4_disturbance 8 = .ok (.getfield 31, 3) := by decide +kernel
theorem dX4_disturbance_11 : decode cX4_disturbance 11 = .ok (.ifCond .gt 5, 3) := by decide +kernel
theorem dX4_disturbance_14 : decode cX4_disturbance 14 = .ok (.iconst 0, 1) := by decide +kernel
theorem dX4_disturbance_15 : decode cX4_disturbance 15 = .ok (.ireturn, 1) := by decide +kernel
theorem dX4_disturbance_16 : decode cX4_disturbance 16 = .ok (.aload_n 0, 1) := by decide +kernel
theorem dX4_disturbance_17 : decode cX4_disturbance 17 = .ok (.getfield 28, 3) := by decide +kernel
theorem dX4_disturbance_20 : decode cX4_disturbance 20 = .ok (.aload_n 0, 1) := by decide +kernel
theorem dX4_disturbance_21 : decode cX4_disturbance 21 = .ok (.getfield 34, 3) := by decide +kernel
theorem dX4_disturbance_24 : decode cX4_disturbance 24 = .ok (.imul, 1) := by decide +kernel
theorem dX4_disturbance_25 : decode cX4_disturbance 25 = .ok (.aload_n 0, 1) := by decide +kernel
theorem dX4_disturbance_26 : decode cX4_disturbance 26 = .ok (.getfield 31, 3) := by decide +kernel
theorem dX4_disturbance_29 : decode cX4_disturbance 29 = .ok (.idiv, 1) := by decide +kernel
theorem dX4_disturbance_30 : decode cX4_disturbance 30 = .ok (.ireturn, 1) := by decide +kernel
theorem dX4_printPiece_0 : decode cX4_printPiece 0 = .ok (.aload_n 0, 1) := by decide +kernel
theorem dX4_printPiece_1 : decode cX4_printPiece 1 = .ok (.getfield 9, 3) := by decide +kernel
theorem dX4_printPiece_4 : decode cX4_printPiece 4 = .ok (.iload_n 1, 1) := by decide +kernel
theorem dX4_printPiece_5 : decode cX4_printPiece 5 = .ok (.bipush 127, 2) := by decide +kernel
theorem dX4_printPiece_7 : decode cX4_printPiece 7 = .ok (.iand, 1) := by decide +kernel
theorem dX4_printPiece_8 : decode cX4_printPiece 8 = .ok (.aload_n 0, 1) := by decide +kernel
theorem dX4_printPiece_9 : decode cX4_printPiece 9 = .ok (.getfield 18, 3) := by decide +kernel
theorem dX4_printPiece_12 : decode cX4_printPiece 12 = .ok (.aload_n 0, 1) := by decide +kernel
theorem dX4_printPiece_13 : decode cX4_printPiece 13 = .ok (.invokevirtual 43, 3) := by decide +kernel
theorem dX4_printPiece_16 : decode cX4_printPiece 16 = .ok (.iadd, 1) := by decide +kernel
theorem dX4_printPiece_17 : decode cX4_printPiece 17 = .ok (.iload_n 2, 1) := by decide +kernel
theorem dX4_printPiece_18 : decode cX4_printPiece 18 = .ok (.iadd, 1) := by decide +kernel
theorem dX4_printPiece_19 : decode cX4_printPiece 19 = .ok (.iastore, 1) := by decide +kernel
theorem dX4_printPiece_20 : decode cX4_printPiece 20 = .ok (.aload_n 0, 1) := by decide +kernel
theorem dX4_printPiece_21 : decode cX4_printPiece 21 = .ok (.getfield 15, 3) := by decide +kernel
theorem dX4_printPiece_24 : decode cX4_printPiece 24 = .ok (.iload_n 1, 1) := by decide +kernel
theorem dX4_printPiece_25 : decode cX4_printPiece 25 = .ok (.bipush 127, 2) := by decide +kernel
theorem dX4_printPiece_27 : decode cX4_printPiece 27 = .ok (.iand, 1) := by decide +kernel
theorem dX4_printPiece_28 : decode cX4_printPiece 28 = .ok (.aload_n 0, 1) := by decide +kernel
theorem dX4_printPiece_29 : decode cX4_printPiece 29 = .ok (.getfield 25, 3) := by decide +kernel
theorem dX4_printPiece_32 : decode cX4_printPiece 32 = .ok (.aload_n 0, 1) := by decide +kernel
theorem dX4_printPiece_33 : decode cX4_printPiece 33 = .ok (.getfield 22, 3) := by decide +kernel
theorem dX4_printPiece_36 : decode cX4_printPiece 36 = .ok (.iadd, 1) := by decide +kernel
theorem dX4_printPiece_37 : decode cX4_printPiece 37 = .ok (.iastore, 1) := by decide +kernel
theorem dX4_printPiece_38 : decode cX4_printPiece 38 = .ok (.return_, 1) := by decide +kernel
theorem dX4_offsetAt_0 : decode cX4_offsetAt 0 = .ok (.aload_n 0, 1) := by decide +kernel
theorem dX4_offsetAt_1 : decode cX4_offsetAt 1 = .ok (.getfield 9, 3) := by decide +kernel
theorem dX4_offsetAt_4 : decode cX4_offsetAt 4 = .ok (.iload_n 1, 1) := by decide +kernel
theorem dX4_offsetAt_5 : decode cX4_offsetAt 5 = .ok (.bipush 127, 2) := by decide +kernel
theorem dX4_offsetAt_7 : decode cX4_offsetAt 7 = .ok (.iand, 1) := by decide +kernel
theorem dX4_offsetAt_8 : decode cX4_offsetAt 8 = .ok (.iaload, 1) := by decide +kernel
theorem dX4_offsetAt_9 : decode cX4_offsetAt 9 = .ok (.ireturn, 1) := by decide +kernel
theorem dX4_skewAt_0 : decode cX4_skewAt 0 = .ok (.aload_n 0, 1) := by decide +kernel
theorem dX4_skewAt_1 : decode cX4_skewAt 1 = .ok (.getfield 15, 3) := by decide +kernel
theorem dX4_skewAt_4 : decode cX4_skewAt 4 = .ok (.iload_n 1, 1) := by decide +kernel
theorem dX4_skewAt_5 : decode cX4_skewAt 5 = .ok (.bipush 127, 2) := by decide +kernel
theorem dX4_skewAt_7 : decode cX4_skewAt 7 = .ok (.iand, 1) := by decide +kernel
theorem dX4_skewAt_8 : decode cX4_skewAt 8 = .ok (.iaload, 1) := by decide +kernel
theorem dX4_skewAt_9 : decode cX4_skewAt 9 = .ok (.ireturn, 1) := by decide +kernel
theorem dX5_init_0 : decode cX5_init 0 = .ok (.aload_n 0, 1) := by decide +kernel
theorem dX5_init_1 : decode cX5_init 1 = .ok (.invokespecial 3, 3) := by decide +kernel
theorem dX5_init_4 : decode cX5_init 4 = .ok (.aload_n 0, 1) := by decide +kernel
theorem dX5_init_5 : decode cX5_init 5 = .ok (.new 9, 3) := by decide +kernel
theorem dX5_init_8 : decode cX5_init 8 = .ok (.dup, 1) := by decide +kernel
theorem dX5_init_9 : decode cX5_init 9 = .ok (.invokespecial 11, 3) := by decide +kernel
theorem dX5_init_12 : decode cX5_init 12 = .ok (.putfield 12, 3) := by decide +kernel
theorem dX5_init_15 : decode cX5_init 15 = .ok (.return_, 1) := by decide +kernel
theorem dX5_begin_0 : decode cX5_begin 0 = .ok (.aload_n 0, 1) := by decide +kernel
theorem dX5_begin_1 : decode cX5_begin 1 = .ok (.getfield 12, 3) := by decide +kernel
theorem dX5_begin_4 : decode cX5_begin 4 = .ok (.invokevirtual 18, 3) := by decide +kernel
theorem dX5_begin_7 : decode cX5_begin 7 = .ok (.aload_n 0, 1) := by decide +kernel
theorem dX5_begin_8 : decode cX5_begin 8 = .ok (.iconst 0, 1) := by decide +kernel
theorem dX5_begin_9 : decode cX5_begin 9 = .ok (.putfield 21, 3) := by decide +kernel
theorem dX5_begin_12 : decode cX5_begin 12 = .ok (.aload_n 0, 1) := by decide +kernel
theorem dX5_begin_13 : decode cX5_begin 13 = .ok (.iconst 0, 1) := by decide +kernel
theorem dX5_begin_14 : decode cX5_begin 14 = .ok (.putfield 25, 3) := by decide +kernel
theorem dX5_begin_17 : decode cX5_begin 17 = .ok (.aload_n 0, 1) := by decide +kernel
theorem dX5_begin_18 : decode cX5_begin 18 = .ok (.iconst 0, 1) := by decide +kernel
theorem dX5_begin_19 : decode cX5_begin 19 = .ok (.putfield 28, 3) := by decide +kernel
theorem dX5_begin_22 : decode cX5_begin 22 = .ok (.aload_n 0, 1) := by decide +kernel
theorem dX5_begin_23 : decode cX5_begin 23 = .ok (.invokevirtual 31, 3) := by decide +kernel
theorem dX5_begin_26 : decode cX5_begin 26 = .ok (.aload_n 0, 1) := by decide +kernel
theorem dX5_begin_27 : decode cX5_begin 27 = .ok (.iconst 0, 1) := by decide +kernel
theorem dX5_begin_28 : decode cX5_begin 28 = .ok (.putfield 34, 3) := by decide +kernel
theorem dX5_begin_31 : decode cX5_begin 31 = .ok (.aload_n 0, 1) := by decide +kernel
theorem dX5_begin_32 : decode cX5_begin 32 = .ok (.iconst 0, 1) := by decide +kernel
theorem dX5_begin_33 : decode cX5_begin 33 = .ok (.putfield 37, 3) := by decide +kernel
theorem dX5_begin_36 : decode cX5_begin 36 = .ok (.aload_n 0, 1) := by decide +kernel
theorem dX5_begin_37 : decode cX5_begin 37 = .ok (.iconst 0, 1) := by decide +kernel
theorem dX5_begin_38 : decode cX5_begin 38 = .ok (.putfield 40, 3) := by decide +kernel
theorem dX5_begin_41 : decode cX5_begin 41 = .ok (.aload_n 0, 1) := by decide +kernel
theorem dX5_begin_42 : decode cX5_begin 42 = .ok (.iconst 0, 1) := by decide +kernel
theorem dX5_begin_43 : decode cX5_begin 43 = .ok (.putfield 43, 3) := by decide +kernel
theorem dX5_begin_46 : decode cX5_begin 46 = .ok (.return_, 1) := by decide +kernel
theorem dX5_seeNothing_0 : decode cX5_seeNothing 0 = .ok (.aload_n 0, 1) := by decide +kernel
theorem dX5_seeNothing_1 : decode cX5_seeNothing 1 = .ok (.iconst 0, 1) := by decide +kernel
theorem dX5_seeNothing_2 : decode cX5_seeNothing 2 = .ok (.putfield 50, 3) := by decide +kernel
theorem dX5_seeNothing_5 : decode cX5_seeNothing 5 = .ok (.aload_n 0, 1) := by decide +kernel
theorem dX5_seeNothing_6 : decode cX5_seeNothing 6 = .ok (.iconst 0, 1) := by decide +kernel
theorem dX5_seeNothing_7 : decode cX5_seeNothing 7 = .ok (.putfield 54, 3) := by decide +kernel
theorem dX5_seeNothing_10 : decode cX5_seeNothing 10 = .ok (.return_, 1) := by decide +kernel
theorem dX5_seePiece_0 : decode cX5_seePiece 0 = .ok (.aload_n 0, 1) := by decide +kernel
theorem dX5_seePiece_1 : decode cX5_seePiece 1 = .ok (.iconst 1, 1) := by decide +kernel
theorem dX5_seePiece_2 : decode cX5_seePiece 2 = .ok (.putfield 50, 3) := by decide +kernel
theorem dX5_seePiece_5 : decode cX5_seePiece 5 = .ok (.aload_n 0, 1) := by decide +kernel
theorem dX5_seePiece_6 : decode cX5_seePiece 6 = .ok (.iconst 0, 1) := by decide +kernel
theorem dX5_seePiece_7 : decode cX5_seePiece 7 = .ok (.putfield 54, 3) := by decide +kernel
theorem dX5_seePiece_10 : decode cX5_seePiece 10 = .ok (.aload_n 0, 1) := by decide +kernel
theorem dX5_seePiece_11 : decode cX5_seePiece 11 = .ok (.iload_n 1, 1) := by decide +kernel
theorem dX5_seePiece_12 : decode cX5_seePiece 12 = .ok (.putfield 34, 3) := by decide +kernel
theorem dX5_seePiece_15 : decode cX5_seePiece 15 = .ok (.aload_n 0, 1) := by decide +kernel
theorem dX5_seePiece_16 : decode cX5_seePiece 16 = .ok (.iload_n 2, 1) := by decide +kernel
theorem dX5_seePiece_17 : decode cX5_seePiece 17 = .ok (.putfield 37, 3) := by decide +kernel
theorem dX5_seePiece_20 : decode cX5_seePiece 20 = .ok (.aload_n 0, 1) := by decide +kernel
theorem dX5_seePiece_21 : decode cX5_seePiece 21 = .ok (.getfield 12, 3) := by decide +kernel
theorem dX5_seePiece_24 : decode cX5_seePiece 24 = .ok (.iload_n 1, 1) := by decide +kernel
theorem dX5_seePiece_25 : decode cX5_seePiece 25 = .ok (.invokevirtual 57, 3) := by decide +kernel
theorem dX5_seePiece_28 : decode cX5_seePiece 28 = .ok (.return_, 1) := by decide +kernel
theorem dX5_recognizeNear_0 : decode cX5_recognizeNear 0 = .ok (.aload_n 0, 1) := by decide +kernel
theorem dX5_recognizeNear_1 : decode cX5_recognizeNear 1 = .ok (.getfield 34, 3) := by decide +kernel
theorem dX5_recognizeNear_4 : decode cX5_recognizeNear 4 = .ok (.iload_n 1, 1) := by decide +kernel
theorem dX5_recognizeNear_5 : decode cX5_recognizeNear 5 = .ok (.isub, 1) := by decide +kernel
theorem dX5_recognizeNear_6 : decode cX5_recognizeNear 6 = .ok (.invokestatic 61, 3) := by decide +kernel
theorem dX5_recognizeNear_9 : decode cX5_recognizeNear 9 = .ok (.istore 4, 2) := by decide +kernel
theorem dX5_recognizeNear_11 : decode cX5_recognizeNear 11 = .ok (.aload_n 0, 1) := by decide +kernel
theorem dX5_recognizeNear_12 : decode cX5_recognizeNear 12 = .ok (.getfield 25, 3) := by decide +kernel
theorem dX5_recognizeNear_15 : decode cX5_recognizeNear 15 = .ok (.iload_n 1, 1) := by decide +kernel
theorem dX5_recognizeNear_16 : decode cX5_recognizeNear 16 = .ok (.isub, 1) := by decide +kernel
theorem dX5_recognizeNear_17 : decode cX5_recognizeNear 17 = .ok (.invokestatic 61, 3) := by decide +kernel
theorem dX5_recognizeNear_20 : decode cX5_recognizeNear 20 = .ok (.istore 5, 2) := by decide +kernel
theorem dX5_recognizeNear_22 : decode cX5_recognizeNear 22 = .ok (.aload_n 0, 1) := by decide +kernel
theorem dX5_recognizeNear_23 : decode cX5_recognizeNear 23 = .ok (.getfield 21, 3) := by decide +kernel
theorem dX5_recognizeNear_26 : decode cX5_recognizeNear 26 = .ok (.ifCond .ne 13, 3) := by decide +kernel
theorem dX5_recognizeNear_29 : decode cX5_recognizeNear 29 = .ok (.iload 4, 2) := by decide +kernel
theorem dX5_recognizeNear_31 : decode cX5_recognizeNear 31 = .ok (.iload_n 3, 1) := by decide +kernel
theorem dX5_recognizeNear_32 : decode cX5_recognizeNear 32 = .ok (.if_icmp .gt 7, 3) := by decide +kernel
theorem dX5_recognizeNear_35 : decode cX5_recognizeNear 35 = .ok (.iconst 1, 1) := by decide +kernel
theorem dX5_recognizeNear_36 : decode cX5_recognizeNear 36 = .ok (.goto 4, 3) := by decide +kernel
theorem dX5_recognizeNear_39 : decode cX5_recognizeNear 39 = .ok (.iconst 0, 1) := by decide +kernel
theorem dX5_recognizeNear_40 : decode cX5_recognizeNear 40 = .ok (.istore 6, 2) := by decide +kernel
theorem dX5_recognizeNear_42 : decode cX5_recognizeNear 42 = .ok (.aload_n 0, 1) := by decide +kernel
theorem dX5_recognizeNear_43 : decode cX5_recognizeNear 43 = .ok (.getfield 28, 3) := by decide +kernel
theorem dX5_recognizeNear_46 : decode cX5_recognizeNear 46 = .ok (.ifCond .le 13, 3) := by decide +kernel
theorem dX5_recognizeNear_49 : decode cX5_recognizeNear 49 = .ok (.iload 5, 2) := by decide +kernel
theorem dX5_recognizeNear_51 : decode cX5_recognizeNear 51 = .ok (.iload_n 3, 1) := by decide +kernel
theorem dX5_recognizeNear_52 : decode cX5_recognizeNear 52 = .ok (.if_icmp .gt 7, 3) := by decide +kernel
theorem dX5_recognizeNear_55 : decode cX5_recognizeNear 55 = .ok (.iconst 1, 1) := by decide +kernel
theorem dX5_recognizeNear_56 : decode cX5_recognizeNear 56 = .ok (.goto 4, 3) := by decide +kernel
theorem dX5_recognizeNear_59 : decode cX5_recognizeNear 59 = .ok (.iconst 0, 1) := by decide +kernel
theorem dX5_recognizeNear_60 : decode cX5_recognizeNear 60 = .ok (.istore 7, 2) := by decide +kernel
theorem dX5_recognizeNear_62 : decode cX5_recognizeNear 62 = .ok (.iload 6, 2) := by decide +kernel
theorem dX5_recognizeNear_64 : decode cX5_recognizeNear 64 = .ok (.ifCond .eq 39, 3) := by decide +kernel
theorem dX5_recognizeNear_67 : decode cX5_recognizeNear 67 = .ok (.iload 7, 2) := by decide +kernel
theorem dX5_recognizeNear_69 : decode cX5_recognizeNear 69 = .ok (.ifCond .eq 10, 3) := by decide +kernel
theorem dX5_recognizeNear_72 : decode cX5_recognizeNear 72 = .ok (.iload 4, 2) := by decide +kernel
theorem dX5_recognizeNear_74 : decode cX5_recognizeNear 74 = .ok (.iload 5, 2) := by decide +kernel
theorem dX5_recognizeNear_76 : decode cX5_recognizeNear 76 = .ok (.if_icmp .gt 27, 3) := by decide +kernel
theorem dX5_recognizeNear_79 : decode cX5_recognizeNear 79 = .ok (.aload_n 0, 1) := by decide +kernel
theorem dX5_recognizeNear_80 : decode cX5_recognizeNear 80 = .ok (.iconst 1, 1) := by decide +kernel
theorem dX5_recognizeNear_81 : decode cX5_recognizeNear 81 = .ok (.putfield 54, 3) := by decide +kernel
theorem dX5_recognizeNear_84 : decode cX5_recognizeNear 84 = .ok (.aload_n 0, 1) := by decide +kernel
theorem dX5_recognizeNear_85 : decode cX5_recognizeNear 85 = .ok (.aload_n 0, 1) := by decide +kernel
theorem dX5_recognizeNear_86 : decode cX5_recognizeNear 86 = .ok (.getfield 34, 3) := by decide +kernel
theorem dX5_recognizeNear_89 : decode cX5_recognizeNear 89 = .ok (.putfield 40, 3) := by decide +kernel
theorem dX5_recognizeNear_92 : decode cX5_recognizeNear 92 = .ok (.aload_n 0, 1) := by decide +kernel
theorem dX5_recognizeNear_93 : decode cX5_recognizeNear 93 = .ok (.aload_n 0, 1) := by decide +kernel
theorem dX5_recognizeNear_94 : decode cX5_recognizeNear 94 = .ok (.getfield 37, 3) := by decide +kernel
theorem dX5_recognizeNear_97 : decode cX5_recognizeNear 97 = .ok (.putfield 43, 3) := by decide +kernel
theorem dX5_recognizeNear_100 : decode cX5_recognizeNear 100 = .ok (.goto 26, 3) := by decide +kernel
theorem dX5_recognizeNear_103 : decode cX5_recognizeNear 103 = .ok (.iload 7, 2) := by decide +kernel
theorem dX5_recognizeNear_105 : decode cX5_recognizeNear 105 = .ok (.ifCond .eq 21, 3) := by decide +kernel
theorem dX5_recognizeNear_108 : decode cX5_recognizeNear 108 = .ok (.aload_n 0, 1) := by decide +kernel
theorem dX5_recognizeNear_109 : decode cX5_recognizeNear 109 = .ok (.iconst 2, 1) := by decide +kernel
theorem dX5_recognizeNear_110 : decode cX5_recognizeNear 110 = .ok (.putfield 54, 3) := by decide +kernel
theorem dX5_recognizeNear_113 : decode cX5_recognizeNear 113 = .ok (.aload_n 0, 1) := by decide +kernel
theorem dX5_recognizeNear_114 : decode cX5_recognizeNear 114 = .ok (.aload_n 0, 1) := by decide +kernel
theorem dX5_recognizeNear_115 : decode cX5_recognizeNear 115 = .ok (.getfield 25, 3) := by decide +kernel
theorem dX5_recognizeNear_118 : decode cX5_recognizeNear 118 = .ok (.putfield 40, 3) := by decide +kernel
theorem dX5_recognizeNear_121 : decode cX5_recognizeNear 121 = .ok (.aload_n 0, 1) := by decide +kernel
theorem dX5_recognizeNear_122 : decode cX5_recognizeNear 122 = .ok (.iload_n 2, 1) := by decide +kernel
theorem dX5_recognizeNear_123 : decode cX5_recognizeNear 123 = .ok (.putfield 43, 3) := by decide +kernel
theorem dX5_recognizeNear_126 : decode cX5_recognizeNear 126 = .ok (.return_, 1) := by decide +kernel
theorem dX5_sight_0 : decode cX5_sight 0 = .ok (.iload_n 1, 1) := by decide +kernel
theorem dX5_sight_1 : decode cX5_sight 1 = .ok (.tableswitch 51 2 5 #[31, 36, 41, 46], 31) := by decide +kernel
theorem dX5_sight_32 : decode cX5_sight 32 = .ok (.aload_n 0, 1) := by decide +kernel
theorem dX5_sight_33 : decode cX5_sight 33 = .ok (.getfield 34, 3) := by decide +kernel
theorem dX5_sight_36 : decode cX5_sight 36 = .ok (.ireturn, 1) := by decide +kernel
theorem dX5_sight_37 : decode cX5_sight 37 = .ok (.aload_n 0, 1) := by decide +kernel
theorem dX5_sight_38 : decode cX5_sight 38 = .ok (.getfield 37, 3) := by decide +kernel
theorem dX5_sight_41 : decode cX5_sight 41 = .ok (.ireturn, 1) := by decide +kernel
theorem dX5_sight_42 : decode cX5_sight 42 = .ok (.aload_n 0, 1) := by decide +kernel
theorem dX5_sight_43 : decode cX5_sight 43 = .ok (.getfield 54, 3) := by decide +kernel
theorem dX5_sight_46 : decode cX5_sight 46 = .ok (.ireturn, 1) := by decide +kernel
theorem dX5_sight_47 : decode cX5_sight 47 = .ok (.aload_n 0, 1) := by decide +kernel
theorem dX5_sight_48 : decode cX5_sight 48 = .ok (.getfield 40, 3) := by decide +kernel
theorem dX5_sight_51 : decode cX5_sight 51 = .ok (.ireturn, 1) := by decide +kernel
theorem dX5_sight_52 : decode cX5_sight 52 = .ok (.aload_n 0, 1) := by decide +kernel
theorem dX5_sight_53 : decode cX5_sight 53 = .ok (.getfield 43, 3) := by decide +kernel
theorem dX5_sight_56 : decode cX5_sight 56 = .ok (.ireturn, 1) := by decide +kernel
theorem dX6_init_0 : decode cX6_init 0 = .ok (.aload_n 0, 1) := by decide +kernel
theorem dX6_init_1 : decode cX6_init 1 = .ok (.invokespecial 1, 3) := by decide +kernel
theorem dX6_init_4 : decode cX6_init 4 = .ok (.aload_n 0, 1) := by decide +kernel
theorem dX6_init_5 : decode cX6_init 5 = .ok (.new 7, 3) := by decide +kernel
theorem dX6_init_8 : decode cX6_init 8 = .ok (.dup, 1) := by decide +kernel
theorem dX6_init_9 : decode cX6_init 9 = .ok (.invokespecial 9, 3) := by decide +kernel
theorem dX6_init_12 : decode cX6_init 12 = .ok (.putfield 10, 3) := by decide +kernel
theorem dX6_init_15 : decode cX6_init 15 = .ok (.return_, 1) := by decide +kernel
theorem dX7_init_0 : decode cX7_init 0 = .ok (.aload_n 0, 1) := by decide +kernel
theorem dX7_init_1 : decode cX7_init 1 = .ok (.invokespecial 3, 3) := by decide +kernel
theorem dX7_init_4 : decode cX7_init 4 = .ok (.aload_n 0, 1) := by decide +kernel
theorem dX7_init_5 : decode cX7_init 5 = .ok (.bipush 11, 2) := by decide +kernel
theorem dX7_init_7 : decode cX7_init 7 = .ok (.newarray .int, 2) := by decide +kernel
theorem dX7_init_9 : decode cX7_init 9 = .ok (.putfield 9, 3) := by decide +kernel
theorem dX7_init_12 : decode cX7_init 12 = .ok (.aload_n 0, 1) := by decide +kernel
theorem dX7_init_13 : decode cX7_init 13 = .ok (.new 15, 3) := by decide +kernel
theorem dX7_init_16 : decode cX7_init 16 = .ok (.dup, 1) := by decide +kernel
theorem dX7_init_17 : decode cX7_init 17 = .ok (.invokespecial 17, 3) := by decide +kernel
theorem dX7_init_20 : decode cX7_init 20 = .ok (.putfield 18, 3) := by decide +kernel
theorem dX7_init_23 : decode cX7_init 23 = .ok (.aload_n 0, 1) := by decide +kernel
theorem dX7_init_24 : decode cX7_init 24 = .ok (.new 22, 3) := by decide +kernel
theorem dX7_init_27 : decode cX7_init 27 = .ok (.dup, 1) := by decide +kernel
theorem dX7_init_28 : decode cX7_init 28 = .ok (.invokespecial 24, 3) := by decide +kernel
theorem dX7_init_31 : decode cX7_init 31 = .ok (.putfield 25, 3) := by decide +kernel
theorem dX7_init_34 : decode cX7_init 34 = .ok (.aload_n 0, 1) := by decide +kernel
theorem dX7_init_35 : decode cX7_init 35 = .ok (.new 29, 3) := by decide +kernel
theorem dX7_init_38 : decode cX7_init 38 = .ok (.dup, 1) := by decide +kernel
theorem dX7_init_39 : decode cX7_init 39 = .ok (.invokespecial 31, 3) := by decide +kernel
theorem dX7_init_42 : decode cX7_init 42 = .ok (.putfield 32, 3) := by decide +kernel
theorem dX7_init_45 : decode cX7_init 45 = .ok (.return_, 1) := by decide +kernel
theorem dX7_begin_0 : decode cX7_begin 0 = .ok (.iconst 0, 1) := by decide +kernel
theorem dX7_begin_1 : decode cX7_begin 1 = .ok (.istore_n 1, 1) := by decide +kernel
theorem dX7_begin_2 : decode cX7_begin 2 = .ok (.iload_n 1, 1) := by decide +kernel
theorem dX7_begin_3 : decode cX7_begin 3 = .ok (.bipush 11, 2) := by decide +kernel
theorem dX7_begin_5 : decode cX7_begin 5 = .ok (.if_icmp .ge 20, 3) := by decide +kernel
theorem dX7_begin_8 : decode cX7_begin 8 = .ok (.aload_n 0, 1) := by decide +kernel
theorem dX7_begin_9 : decode cX7_begin 9 = .ok (.getfield 9, 3) := by decide +kernel
theorem dX7_begin_12 : decode cX7_begin 12 = .ok (.iload_n 1, 1) := by decide +kernel
theorem dX7_begin_13 : decode cX7_begin 13 = .ok (.getstatic 36, 3) := by decide +kernel
theorem dX7_begin_16 : decode cX7_begin 16 = .ok (.iload_n 1, 1) := by decide +kernel
theorem dX7_begin_17 : decode cX7_begin 17 = .ok (.iaload, 1) := by decide +kernel
theorem dX7_begin_18 : decode cX7_begin 18 = .ok (.iastore, 1) := by decide +kernel
theorem dX7_begin_19 : decode cX7_begin 19 = .ok (.iinc 1 1, 3) := by decide +kernel
theorem dX7_begin_22 : decode cX7_begin 22 = .ok (.goto (-20), 3) := by decide +kernel
theorem dX7_begin_25 : decode cX7_begin 25 = .ok (.aload_n 0, 1) := by decide +kernel
theorem dX7_begin_26 : decode cX7_begin 26 = .ok (.getfield 18, 3) := by decide +kernel
theorem dX7_begin_29 : decode cX7_begin 29 = .ok (.invokevirtual 39, 3) := by decide +kernel
theorem dX7_begin_32 : decode cX7_begin 32 = .ok (.aload_n 0, 1) := by decide +kernel
theorem dX7_begin_33 : decode cX7_begin 33 = .ok (.getfield 25, 3) := by decide +kernel
theorem dX7_begin_36 : decode cX7_begin 36 = .ok (.invokevirtual 42, 3) := by decide +kernel
theorem dX7_begin_39 : decode cX7_begin 39 = .ok (.aload_n 0, 1) := by decide +kernel
theorem dX7_begin_40 : decode cX7_begin 40 = .ok (.getfield 32, 3) := by decide +kernel
theorem dX7_begin_43 : decode cX7_begin 43 = .ok (.invokevirtual 45, 3) := by decide +kernel
theorem dX7_begin_46 : decode cX7_begin 46 = .ok (.return_, 1) := by decide +kernel
theorem dX7_setting_0 : decode cX7_setting 0 = .ok (.iload_n 1, 1) := by decide +kernel
theorem dX7_setting_1 : decode cX7_setting 1 = .ok (.ifCond .lt 18, 3) := by decide +kernel
theorem dX7_setting_4 : decode cX7_setting 4 = .ok (.iload_n 1, 1) := by decide +kernel
theorem dX7_setting_5 : decode cX7_setting 5 = .ok (.bipush 11, 2) := by decide +kernel
theorem dX7_setting_7 : decode cX7_setting 7 = .ok (.if_icmp .ge 12, 3) := by decide +kernel
theorem dX7_setting_10 : decode cX7_setting 10 = .ok (.aload_n 0, 1) := by decide +kernel
theorem dX7_setting_11 : decode cX7_setting 11 = .ok (.getfield 9, 3) := by decide +kernel
theorem dX7_setting_14 : decode cX7_setting 14 = .ok (.iload_n 1, 1) := by decide +kernel
theorem dX7_setting_15 : decode cX7_setting 15 = .ok (.iaload, 1) := by decide +kernel
theorem dX7_setting_16 : decode cX7_setting 16 = .ok (.goto 4, 3) := by decide +kernel
theorem dX7_setting_19 : decode cX7_setting 19 = .ok (.iconst 0, 1) := by decide +kernel
theorem dX7_setting_20 : decode cX7_setting 20 = .ok (.ireturn, 1) := by decide +kernel
theorem dX7_changeSetting_0 : decode cX7_changeSetting 0 = .ok (.iload_n 1, 1) := by decide +kernel
theorem dX7_changeSetting_1 : decode cX7_changeSetting 1 = .ok (.ifCond .lt 16, 3) := by decide +kernel
theorem dX7_changeSetting_4 : decode cX7_changeSetting 4 = .ok (.iload_n 1, 1) := by decide +kernel
theorem dX7_changeSetting_5 : decode cX7_changeSetting 5 = .ok (.bipush 11, 2) := by decide +kernel
theorem dX7_changeSetting_7 : decode cX7_changeSetting 7 = .ok (.if_icmp .ge 10, 3) := by decide +kernel
theorem dX7_changeSetting_10 : decode cX7_changeSetting 10 = .ok (.aload_n 0, 1) := by decide +kernel
theorem dX7_changeSetting_11 : decode cX7_changeSetting 11 = .ok (.getfield 9, 3) := by decide +kernel
theorem dX7_changeSetting_14 : decode cX7_changeSetting 14 = .ok (.iload_n 1, 1) := by decide +kernel
theorem dX7_changeSetting_15 : decode cX7_changeSetting 15 = .ok (.iload_n 2, 1) := by decide +kernel
theorem dX7_changeSetting_16 : decode cX7_changeSetting 16 = .ok (.iastore, 1) := by decide +kernel
theorem dX7_changeSetting_17 : decode cX7_changeSetting 17 = .ok (.return_, 1) := by decide +kernel
theorem dX7_beSpliced_0 : decode cX7_beSpliced 0 = .ok (.aload_n 0, 1) := by decide +kernel
theorem dX7_beSpliced_1 : decode cX7_beSpliced 1 = .ok (.getfield 18, 3) := by decide +kernel
theorem dX7_beSpliced_4 : decode cX7_beSpliced 4 = .ok (.iload_n 1, 1) := by decide +kernel
theorem dX7_beSpliced_5 : decode cX7_beSpliced 5 = .ok (.iload_n 2, 1) := by decide +kernel
theorem dX7_beSpliced_6 : decode cX7_beSpliced 6 = .ok (.invokevirtual 62, 3) := by decide +kernel
theorem dX7_beSpliced_9 : decode cX7_beSpliced 9 = .ok (.aload_n 0, 1) := by decide +kernel
theorem dX7_beSpliced_10 : decode cX7_beSpliced 10 = .ok (.getfield 25, 3) := by decide +kernel
theorem dX7_beSpliced_13 : decode cX7_beSpliced 13 = .ok (.iconst 0, 1) := by decide +kernel
theorem dX7_beSpliced_14 : decode cX7_beSpliced 14 = .ok (.putfield 66, 3) := by decide +kernel
theorem dX7_beSpliced_17 : decode cX7_beSpliced 17 = .ok (.aload_n 0, 1) := by decide +kernel
theorem dX7_beSpliced_18 : decode cX7_beSpliced 18 = .ok (.getfield 25, 3) := by decide +kernel
theorem dX7_beSpliced_21 : decode cX7_beSpliced 21 = .ok (.aload_n 0, 1) := by decide +kernel
theorem dX7_beSpliced_22 : decode cX7_beSpliced 22 = .ok (.iconst 1, 1) := by decide +kernel
theorem dX7_beSpliced_23 : decode cX7_beSpliced 23 = .ok (.invokevirtual 70, 3) := by decide +kernel
theorem dX7_beSpliced_26 : decode cX7_beSpliced 26 = .ok (.aload_n 0, 1) := by decide +kernel
theorem dX7_beSpliced_27 : decode cX7_beSpliced 27 = .ok (.bipush 9, 2) := by decide +kernel
theorem dX7_beSpliced_29 : decode cX7_beSpliced 29 = .ok (.invokevirtual 70, 3) := by decide +kernel
theorem dX7_beSpliced_32 : decode cX7_beSpliced 32 = .ok (.iadd, 1) := by decide +kernel
theorem dX7_beSpliced_33 : decode cX7_beSpliced 33 = .ok (.putfield 74, 3) := by decide +kernel
theorem dX7_beSpliced_36 : decode cX7_beSpliced 36 = .ok (.return_, 1) := by decide +kernel
theorem dX7_printPiece_0 : decode cX7_printPiece 0 = .ok (.aload_n 0, 1) := by decide +kernel
theorem dX7_printPiece_1 : decode cX7_printPiece 1 = .ok (.getfield 18, 3) := by decide +kernel
theorem dX7_printPiece_4 : decode cX7_printPiece 4 = .ok (.iload_n 1, 1) := by decide +kernel
theorem dX7_printPiece_5 : decode cX7_printPiece 5 = .ok (.aload_n 0, 1) := by decide +kernel
theorem dX7_printPiece_6 : decode cX7_printPiece 6 = .ok (.bipush 10, 2) := by decide +kernel
theorem dX7_printPiece_8 : decode cX7_printPiece 8 = .ok (.invokevirtual 70, 3) := by decide +kernel
theorem dX7_printPiece_11 : decode cX7_printPiece 11 = .ok (.aload_n 0, 1) := by decide +kernel
theorem dX7_printPiece_12 : decode cX7_printPiece 12 = .ok (.getfield 25, 3) := by decide +kernel
theorem dX7_printPiece_15 : decode cX7_printPiece 15 = .ok (.getfield 77, 3) := by decide +kernel
theorem dX7_printPiece_18 : decode cX7_printPiece 18 = .ok (.isub, 1) := by decide +kernel
theorem dX7_printPiece_19 : decode cX7_printPiece 19 = .ok (.iload_n 2, 1) := by decide +kernel
theorem dX7_printPiece_20 : decode cX7_printPiece 20 = .ok (.imul, 1) := by decide +kernel
theorem dX7_printPiece_21 : decode cX7_printPiece 21 = .ok (.bipush 100, 2) := by decide +kernel
theorem dX7_printPiece_23 : decode cX7_printPiece 23 = .ok (.idiv, 1) := by decide +kernel
theorem dX7_printPiece_24 : decode cX7_printPiece 24 = .ok (.invokevirtual 80, 3) := by decide +kernel
theorem dX7_printPiece_27 : decode cX7_printPiece 27 = .ok (.return_, 1) := by decide +kernel
theorem dX7_recognizeMark_0 : decode cX7_recognizeMark 0 = .ok (.aload_n 0, 1) := by decide +kernel
theorem dX7_recognizeMark_1 : decode cX7_recognizeMark 1 = .ok (.getfield 32, 3) := by decide +kernel
theorem dX7_recognizeMark_4 : decode cX7_recognizeMark 4 = .ok (.aload_n 0, 1) := by decide +kernel
theorem dX7_recognizeMark_5 : decode cX7_recognizeMark 5 = .ok (.getfield 25, 3) := by decide +kernel
theorem dX7_recognizeMark_8 : decode cX7_recognizeMark 8 = .ok (.getfield 83, 3) := by decide +kernel
theorem dX7_recognizeMark_11 : decode cX7_recognizeMark 11 = .ok (.aload_n 0, 1) := by decide +kernel
theorem dX7_recognizeMark_12 : decode cX7_recognizeMark 12 = .ok (.getfield 25, 3) := by decide +kernel
theorem dX7_recognizeMark_15 : decode cX7_recognizeMark 15 = .ok (.getfield 86, 3) := by decide +kernel
theorem dX7_recognizeMark_18 : decode cX7_recognizeMark 18 = .ok (.aload_n 0, 1) := by decide +kernel
theorem dX7_recognizeMark_19 : decode cX7_recognizeMark 19 = .ok (.invokevirtual 89, 3) := by decide +kernel
theorem dX7_recognizeMark_22 : decode cX7_recognizeMark 22 = .ok (.invokevirtual 93, 3) := by decide +kernel
theorem dX7_recognizeMark_25 : decode cX7_recognizeMark 25 = .ok (.aload_n 0, 1) := by decide +kernel
theorem dX7_recognizeMark_26 : decode cX7_recognizeMark 26 = .ok (.getfield 32, 3) := by decide +kernel
theorem dX7_recognizeMark_29 : decode cX7_recognizeMark 29 = .ok (.getfield 97, 3) := by decide +kernel
theorem dX7_recognizeMark_32 : decode cX7_recognizeMark 32 = .ok (.ifCond .eq 7, 3) := by decide +kernel
theorem dX7_recognizeMark_35 : decode cX7_recognizeMark 35 = .ok (.iconst 1, 1) := by decide +kernel
theorem dX7_recognizeMark_36 : decode cX7_recognizeMark 36 = .ok (.goto 4, 3) := by decide +kernel
theorem dX7_recognizeMark_39 : decode cX7_recognizeMark 39 = .ok (.iconst 0, 1) := by decide +kernel
theorem dX7_recognizeMark_40 : decode cX7_recognizeMark 40 = .ok (.istore_n 1, 1) := by decide +kernel
theorem dX7_recognizeMark_41 : decode cX7_recognizeMark 41 = .ok (.aload_n 0, 1) := by decide +kernel
theorem dX7_recognizeMark_42 : decode cX7_recognizeMark 42 = .ok (.getfield 25, 3) := by decide +kernel
theorem dX7_recognizeMark_45 : decode cX7_recognizeMark 45 = .ok (.iload_n 1, 1) := by decide +kernel
theorem dX7_recognizeMark_46 : decode cX7_recognizeMark 46 = .ok (.ifCond .eq 7, 3) := by decide +kernel
theorem dX7_recognizeMark_49 : decode cX7_recognizeMark 49 = .ok (.iconst 0, 1) := by decide +kernel
theorem dX7_recognizeMark_50 : decode cX7_recognizeMark 50 = .ok (.goto 12, 3) := by decide +kernel
theorem dX7_recognizeMark_53 : decode cX7_recognizeMark 53 = .ok (.aload_n 0, 1) := by decide +kernel
theorem dX7_recognizeMark_54 : decode cX7_recognizeMark 54 = .ok (.getfield 25, 3) := by decide +kernel
theorem dX7_recognizeMark_57 : decode cX7_recognizeMark 57 = .ok (.getfield 100, 3) := by decide +kernel
theorem dX7_recognizeMark_60 : decode cX7_recognizeMark 60 = .ok (.iconst 1, 1) := by decide +kernel
theorem dX7_recognizeMark_61 : decode cX7_recognizeMark 61 = .ok (.iadd, 1) := by decide +kernel
theorem dX7_recognizeMark_62 : decode cX7_recognizeMark 62 = .ok (.putfield 100, 3) := by decide +kernel
theorem dX7_recognizeMark_65 : decode cX7_recognizeMark 65 = .ok (.iload_n 1, 1) := by decide +kernel
theorem dX7_recognizeMark_66 : decode cX7_recognizeMark 66 = .ok (.ireturn, 1) := by decide +kernel
theorem dX7_window_0 : decode cX7_window 0 = .ok (.aload_n 0, 1) := by decide +kernel
theorem dX7_window_1 : decode cX7_window 1 = .ok (.getfield 25, 3) := by decide +kernel
theorem dX7_window_4 : decode cX7_window 4 = .ok (.getfield 100, 3) := by decide +kernel
theorem dX7_window_7 : decode cX7_window 7 = .ok (.aload_n 0, 1) := by decide +kernel
theorem dX7_window_8 : decode cX7_window 8 = .ok (.iconst 3, 1) := by decide +kernel
theorem dX7_window_9 : decode cX7_window 9 = .ok (.invokevirtual 70, 3) := by decide +kernel
theorem dX7_window_12 : decode cX7_window 12 = .ok (.if_icmp .ge 13, 3) := by decide +kernel
theorem dX7_window_15 : decode cX7_window 15 = .ok (.aload_n 0, 1) := by decide +kernel
theorem dX7_window_16 : decode cX7_window 16 = .ok (.getfield 25, 3) := by decide +kernel
theorem dX7_window_19 : decode cX7_window 19 = .ok (.getfield 74, 3) := by decide +kernel
theorem dX7_window_22 : decode cX7_window 22 = .ok (.ifCond .le 7, 3) := by decide +kernel
theorem dX7_window_25 : decode cX7_window 25 = .ok (.iconst 1, 1) := by decide +kernel
theorem dX7_window_26 : decode cX7_window 26 = .ok (.goto 4, 3) := by decide +kernel
theorem dX7_window_29 : decode cX7_window 29 = .ok (.iconst 0, 1) := by decide +kernel
theorem dX7_window_30 : decode cX7_window 30 = .ok (.istore_n 1, 1) := by decide +kernel
theorem dX7_window_31 : decode cX7_window 31 = .ok (.iload_n 1, 1) := by decide +kernel
theorem dX7_window_32 : decode cX7_window 32 = .ok (.ifCond .eq 13, 3) := by decide +kernel
theorem dX7_window_35 : decode cX7_window 35 = .ok (.iconst 4, 1) := by decide +kernel
theorem dX7_window_36 : decode cX7_window 36 = .ok (.aload_n 0, 1) := by decide +kernel
theorem dX7_window_37 : decode cX7_window 37 = .ok (.iconst 2, 1) := by decide +kernel
theorem dX7_window_38 : decode cX7_window 38 = .ok (.invokevirtual 70, 3) := by decide +kernel
theorem dX7_window_41 : decode cX7_window 41 = .ok (.imul, 1) := by decide +kernel
theorem dX7_window_42 : decode cX7_window 42 = .ok (.goto 8, 3) := by decide +kernel
theorem dX7_window_45 : decode cX7_window 45 = .ok (.aload_n 0, 1) := by decide +kernel
theorem dX7_window_46 : decode cX7_window 46 = .ok (.iconst 2, 1) := by decide +kernel
theorem dX7_window_47 : decode cX7_window 47 = .ok (.invokevirtual 70, 3) := by decide +kernel
theorem dX7_window_50 : decode cX7_window 50 = .ok (.ireturn, 1) := by decide +kernel
theorem dX7_learnFrom_0 : decode cX7_learnFrom 0 = .ok (.iload_n 1, 1) := by decide +kernel
theorem dX7_learnFrom_1 : decode cX7_learnFrom 1 = .ok (.invokestatic 103, 3) := by decide +kernel
theorem dX7_learnFrom_4 : decode cX7_learnFrom 4 = .ok (.bipush 10, 2) := by decide +kernel
theorem dX7_learnFrom_6 : decode cX7_learnFrom 6 = .ok (.if_icmp .lt 16, 3) := by decide +kernel
theorem dX7_learnFrom_9 : decode cX7_learnFrom 9 = .ok (.iload_n 1, 1) := by decide +kernel
theorem dX7_learnFrom_10 : decode cX7_learnFrom 10 = .ok (.ifCond .eq 12, 3) := by decide +kernel
theorem dX7_learnFrom_13 : decode cX7_learnFrom 13 = .ok (.aload_n 0, 1) := by decide +kernel
theorem dX7_learnFrom_14 : decode cX7_learnFrom 14 = .ok (.bipush 8, 2) := by decide +kernel
theorem dX7_learnFrom_16 : decode cX7_learnFrom 16 = .ok (.invokevirtual 70, 3) := by decide +kernel
theorem dX7_learnFrom_19 : decode cX7_learnFrom 19 = .ok (.ifCond .gt 5, 3) := by decide +kernel
theorem dX7_learnFrom_22 : decode cX7_learnFrom 22 = .ok (.iconst 0, 1) := by decide +kernel
theorem dX7_learnFrom_23 : decode cX7_learnFrom 23 = .ok (.ireturn, 1) := by decide +kernel
theorem dX7_learnFrom_24 : decode cX7_learnFrom 24 = .ok (.aload_n 0, 1) := by decide +kernel
theorem dX7_learnFrom_25 : decode cX7_learnFrom 25 = .ok (.getfield 32, 3) := by decide +kernel
theorem dX7_learnFrom_28 : decode cX7_learnFrom 28 = .ok (.getfield 108, 3) := by decide +kernel
theorem dX7_learnFrom_31 : decode cX7_learnFrom 31 = .ok (.aload_n 0, 1) := by decide +kernel
theorem dX7_learnFrom_32 : decode cX7_learnFrom 32 = .ok (.getfield 25, 3) := by decide +kernel
theorem dX7_learnFrom_35 : decode cX7_learnFrom 35 = .ok (.getfield 83, 3) := by decide +kernel
theorem dX7_learnFrom_38 : decode cX7_learnFrom 38 = .ok (.isub, 1) := by decide +kernel
theorem dX7_learnFrom_39 : decode cX7_learnFrom 39 = .ok (.istore_n 2, 1) := by decide +kernel
theorem dX7_learnFrom_40 : decode cX7_learnFrom 40 = .ok (.aload_n 0, 1) := by decide +kernel
theorem dX7_learnFrom_41 : decode cX7_learnFrom 41 = .ok (.getfield 25, 3) := by decide +kernel
theorem dX7_learnFrom_44 : decode cX7_learnFrom 44 = .ok (.getfield 77, 3) := by decide +kernel
theorem dX7_learnFrom_47 : decode cX7_learnFrom 47 = .ok (.iload_n 2, 1) := by decide +kernel
theorem dX7_learnFrom_48 : decode cX7_learnFrom 48 = .ok (.bipush 100, 2) := by decide +kernel
theorem dX7_learnFrom_50 : decode cX7_learnFrom 50 = .ok (.imul, 1) := by decide +kernel
theorem dX7_learnFrom_51 : decode cX7_learnFrom 51 = .ok (.iload_n 1, 1) := by decide +kernel
theorem dX7_learnFrom_52 : decode cX7_learnFrom 52 = .ok (.idiv, 1) := by decide +kernel
theorem dX7_learnFrom_53 : decode cX7_learnFrom 53 = .ok (.aload_n 0, 1) := by decide +kernel
theorem dX7_learnFrom_54 : decode cX7_learnFrom 54 = .ok (.bipush 8, 2) := by decide +kernel
theorem dX7_learnFrom_56 : decode cX7_learnFrom 56 = .ok (.invokevirtual 70, 3) := by decide +kernel
theorem dX7_learnFrom_59 : decode cX7_learnFrom 59 = .ok (.imul, 1) := by decide +kernel
theorem dX7_learnFrom_60 : decode cX7_learnFrom 60 = .ok (.sipush 256, 3) := by decide +kernel
theorem dX7_learnFrom_63 : decode cX7_learnFrom 63 = .ok (.idiv, 1) := by decide +kernel
theorem dX7_learnFrom_64 : decode cX7_learnFrom 64 = .ok (.iadd, 1) := by decide +kernel
theorem dX7_learnFrom_65 : decode cX7_learnFrom 65 = .ok (.istore_n 3, 1) := by decide +kernel
theorem dX7_learnFrom_66 : decode cX7_learnFrom 66 = .ok (.aload_n 0, 1) := by decide +kernel
theorem dX7_learnFrom_67 : decode cX7_learnFrom 67 = .ok (.getfield 25, 3) := by decide +kernel
theorem dX7_learnFrom_70 : decode cX7_learnFrom 70 = .ok (.iload_n 3, 1) := by decide +kernel
theorem dX7_learnFrom_71 : decode cX7_learnFrom 71 = .ok (.sipush 500, 3) := by decide +kernel
theorem dX7_learnFrom_74 : decode cX7_learnFrom 74 = .ok (.invokestatic 111, 3) := by decide +kernel
theorem dX7_learnFrom_77 : decode cX7_learnFrom 77 = .ok (.putfield 77, 3) := by decide +kernel
theorem dX7_learnFrom_80 : decode cX7_learnFrom 80 = .ok (.iconst 1, 1) := by decide +kernel
theorem dX7_learnFrom_81 : decode cX7_learnFrom 81 = .ok (.ireturn, 1) := by decide +kernel
theorem dX7_expectAsMeasured_0 : decode cX7_expectAsMeasured 0 = .ok (.aload_n 0, 1) := by decide +kernel
theorem dX7_expectAsMeasured_1 : decode cX7_expectAsMeasured 1 = .ok (.getfield 25, 3) := by decide +kernel
theorem dX7_expectAsMeasured_4 : decode cX7_expectAsMeasured 4 = .ok (.aload_n 0, 1) := by decide +kernel
theorem dX7_expectAsMeasured_5 : decode cX7_expectAsMeasured 5 = .ok (.getfield 32, 3) := by decide +kernel
theorem dX7_expectAsMeasured_8 : decode cX7_expectAsMeasured 8 = .ok (.getfield 108, 3) := by decide +kernel
theorem dX7_expectAsMeasured_11 : decode cX7_expectAsMeasured 11 = .ok (.putfield 83, 3) := by decide +kernel
theorem dX7_expectAsMeasured_14 : decode cX7_expectAsMeasured 14 = .ok (.aload_n 0, 1) := by decide +kernel
theorem dX7_expectAsMeasured_15 : decode cX7_expectAsMeasured 15 = .ok (.getfield 25, 3) := by decide +kernel
theorem dX7_expectAsMeasured_18 : decode cX7_expectAsMeasured 18 = .ok (.aload_n 0, 1) := by decide +kernel
theorem dX7_expectAsMeasured_19 : decode cX7_expectAsMeasured 19 = .ok (.getfield 32, 3) := by decide +kernel
theorem dX7_expectAsMeasured_22 : decode cX7_expectAsMeasured 22 = .ok (.getfield 115, 3) := by decide +kernel
theorem dX7_expectAsMeasured_25 : decode cX7_expectAsMeasured 25 = .ok (.putfield 86, 3) := by decide +kernel
theorem dX7_expectAsMeasured_28 : decode cX7_expectAsMeasured 28 = .ok (.return_, 1) := by decide +kernel
theorem dX7_isOff_0 : decode cX7_isOff 0 = .ok (.iload_n 1, 1) := by decide +kernel
theorem dX7_isOff_1 : decode cX7_isOff 1 = .ok (.invokestatic 103, 3) := by decide +kernel
theorem dX7_isOff_4 : decode cX7_isOff 4 = .ok (.aload_n 0, 1) := by decide +kernel
theorem dX7_isOff_5 : decode cX7_isOff 5 = .ok (.bipush 6, 2) := by decide +kernel
theorem dX7_isOff_7 : decode cX7_isOff 7 = .ok (.invokevirtual 70, 3) := by decide +kernel
theorem dX7_isOff_10 : decode cX7_isOff 10 = .ok (.if_icmp .le 7, 3) := by decide +kernel
theorem dX7_isOff_13 : decode cX7_isOff 13 = .ok (.iconst 1, 1) := by decide +kernel
theorem dX7_isOff_14 : decode cX7_isOff 14 = .ok (.goto 4, 3) := by decide +kernel
theorem dX7_isOff_17 : decode cX7_isOff 17 = .ok (.iconst 0, 1) := by decide +kernel
theorem dX7_isOff_18 : decode cX7_isOff 18 = .ok (.ireturn, 1) := by decide +kernel
theorem dX7_correctPhase_0 : decode cX7_correctPhase 0 = .ok (.aload_n 0, 1) := by decide +kernel
theorem dX7_correctPhase_1 : decode cX7_correctPhase 1 = .ok (.getfield 32, 3) := by decide +kernel
theorem dX7_correctPhase_4 : decode cX7_correctPhase 4 = .ok (.getfield 108, 3) := by decide +kernel
theorem dX7_correctPhase_7 : decode cX7_correctPhase 7 = .ok (.istore_n 1, 1) := by decide +kernel
theorem dX7_correctPhase_8 : decode cX7_correctPhase 8 = .ok (.aload_n 0, 1) := by decide +kernel
theorem dX7_correctPhase_9 : decode cX7_correctPhase 9 = .ok (.getfield 25, 3) := by decide +kernel
theorem dX7_correctPhase_12 : decode cX7_correctPhase 12 = .ok (.aload_n 0, 1) := by decide +kernel
theorem dX7_correctPhase_13 : decode cX7_correctPhase 13 = .ok (.getfield 25, 3) := by decide +kernel
theorem dX7_correctPhase_16 : decode cX7_correctPhase 16 = .ok (.getfield 66, 3) := by decide +kernel
theorem dX7_correctPhase_19 : decode cX7_correctPhase 19 = .ok (.iload_n 1, 1) := by decide +kernel
theorem dX7_correctPhase_20 : decode cX7_correctPhase 20 = .ok (.iadd, 1) := by decide +kernel
theorem dX7_correctPhase_21 : decode cX7_correctPhase 21 = .ok (.sipush 20000, 3) := by decide +kernel
theorem dX7_correctPhase_24 : decode cX7_correctPhase 24 = .ok (.invokestatic 111, 3) := by decide +kernel
theorem dX7_correctPhase_27 : decode cX7_correctPhase 27 = .ok (.putfield 66, 3) := by decide +kernel
theorem dX7_correctPhase_30 : decode cX7_correctPhase 30 = .ok (.aload_n 0, 1) := by decide +kernel
theorem dX7_correctPhase_31 : decode cX7_correctPhase 31 = .ok (.iconst 4, 1) := by decide +kernel
theorem dX7_correctPhase_32 : decode cX7_correctPhase 32 = .ok (.invokevirtual 70, 3) := by decide +kernel
theorem dX7_correctPhase_35 : decode cX7_correctPhase 35 = .ok (.iload_n 1, 1) := by decide +kernel
theorem dX7_correctPhase_36 : decode cX7_correctPhase 36 = .ok (.imul, 1) := by decide +kernel
theorem dX7_correctPhase_37 : decode cX7_correctPhase 37 = .ok (.aload_n 0, 1) := by decide +kernel
theorem dX7_correctPhase_38 : decode cX7_correctPhase 38 = .ok (.iconst 5, 1) := by decide +kernel
theorem dX7_correctPhase_39 : decode cX7_correctPhase 39 = .ok (.invokevirtual 70, 3) := by decide +kernel
theorem dX7_correctPhase_42 : decode cX7_correctPhase 42 = .ok (.aload_n 0, 1) := by decide +kernel
theorem dX7_correctPhase_43 : decode cX7_correctPhase 43 = .ok (.getfield 25, 3) := by decide +kernel
theorem dX7_correctPhase_46 : decode cX7_correctPhase 46 = .ok (.getfield 66, 3) := by decide +kernel
theorem dX7_correctPhase_49 : decode cX7_correctPhase 49 = .ok (.imul, 1) := by decide +kernel
theorem dX7_correctPhase_50 : decode cX7_correctPhase 50 = .ok (.iadd, 1) := by decide +kernel
theorem dX7_correctPhase_51 : decode cX7_correctPhase 51 = .ok (.ineg, 1) := by decide +kernel
theorem dX7_correctPhase_52 : decode cX7_correctPhase 52 = .ok (.sipush 256, 3) := by decide +kernel
theorem dX7_correctPhase_55 : decode cX7_correctPhase 55 = .ok (.idiv, 1) := by decide +kernel
theorem dX7_correctPhase_56 : decode cX7_correctPhase 56 = .ok (.istore_n 2, 1) := by decide +kernel
theorem dX7_correctPhase_57 : decode cX7_correctPhase 57 = .ok (.aload_n 0, 1) := by decide +kernel
theorem dX7_correctPhase_58 : decode cX7_correctPhase 58 = .ok (.getfield 18, 3) := by decide +kernel
theorem dX7_correctPhase_61 : decode cX7_correctPhase 61 = .ok (.getfield 118, 3) := by decide +kernel
theorem dX7_correctPhase_64 : decode cX7_correctPhase 64 = .ok (.istore_n 3, 1) := by decide +kernel
theorem dX7_correctPhase_65 : decode cX7_correctPhase 65 = .ok (.aload_n 0, 1) := by decide +kernel
theorem dX7_correctPhase_66 : decode cX7_correctPhase 66 = .ok (.getfield 18, 3) := by decide +kernel
theorem dX7_correctPhase_69 : decode cX7_correctPhase 69 = .ok (.iload_n 3, 1) := by decide +kernel
theorem dX7_correctPhase_70 : decode cX7_correctPhase 70 = .ok (.iload_n 2, 1) := by decide +kernel
theorem dX7_correctPhase_71 : decode cX7_correctPhase 71 = .ok (.aload_n 0, 1) := by decide +kernel
theorem dX7_correctPhase_72 : decode cX7_correctPhase 72 = .ok (.bipush 7, 2) := by decide +kernel
theorem dX7_correctPhase_74 : decode cX7_correctPhase 74 = .ok (.invokevirtual 70, 3) := by decide +kernel
theorem dX7_correctPhase_77 : decode cX7_correctPhase 77 = .ok (.invokestatic 111, 3) := by decide +kernel
theorem dX7_correctPhase_80 : decode cX7_correctPhase 80 = .ok (.iadd, 1) := by decide +kernel
theorem dX7_correctPhase_81 : decode cX7_correctPhase 81 = .ok (.sipush 5000, 3) := by decide +kernel
theorem dX7_correctPhase_84 : decode cX7_correctPhase 84 = .ok (.invokestatic 111, 3) := by decide +kernel
theorem dX7_correctPhase_87 : decode cX7_correctPhase 87 = .ok (.putfield 118, 3) := by decide +kernel
theorem dX7_correctPhase_90 : decode cX7_correctPhase 90 = .ok (.aload_n 0, 1) := by decide +kernel
theorem dX7_correctPhase_91 : decode cX7_correctPhase 91 = .ok (.getfield 18, 3) := by decide +kernel
theorem dX7_correctPhase_94 : decode cX7_correctPhase 94 = .ok (.getfield 118, 3) := by decide +kernel
theorem dX7_correctPhase_97 : decode cX7_correctPhase 97 = .ok (.iload_n 3, 1) := by decide +kernel
theorem dX7_correctPhase_98 : decode cX7_correctPhase 98 = .ok (.isub, 1) := by decide +kernel
theorem dX7_correctPhase_99 : decode cX7_correctPhase 99 = .ok (.ireturn, 1) := by decide +kernel
theorem dX7_correctSkew_0 : decode cX7_correctSkew 0 = .ok (.aload_n 0, 1) := by decide +kernel
theorem dX7_correctSkew_1 : decode cX7_correctSkew 1 = .ok (.iconst 4, 1) := by decide +kernel
theorem dX7_correctSkew_2 : decode cX7_correctSkew 2 = .ok (.invokevirtual 70, 3) := by decide +kernel
theorem dX7_correctSkew_5 : decode cX7_correctSkew 5 = .ok (.aload_n 0, 1) := by decide +kernel
theorem dX7_correctSkew_6 : decode cX7_correctSkew 6 = .ok (.getfield 32, 3) := by decide +kernel
theorem dX7_correctSkew_9 : decode cX7_correctSkew 9 = .ok (.getfield 115, 3) := by decide +kernel
theorem dX7_correctSkew_12 : decode cX7_correctSkew 12 = .ok (.imul, 1) := by decide +kernel
theorem dX7_correctSkew_13 : decode cX7_correctSkew 13 = .ok (.ineg, 1) := by decide +kernel
theorem dX7_correctSkew_14 : decode cX7_correctSkew 14 = .ok (.sipush 256, 3) := by decide +kernel
theorem dX7_correctSkew_17 : decode cX7_correctSkew 17 = .ok (.idiv, 1) := by decide +kernel
theorem dX7_correctSkew_18 : decode cX7_correctSkew 18 = .ok (.istore_n 1, 1) := by decide +kernel
theorem dX7_correctSkew_19 : decode cX7_correctSkew 19 = .ok (.aload_n 0, 1) := by decide +kernel
theorem dX7_correctSkew_20 : decode cX7_correctSkew 20 = .ok (.getfield 18, 3) := by decide +kernel
theorem dX7_correctSkew_23 : decode cX7_correctSkew 23 = .ok (.getfield 121, 3) := by decide +kernel
theorem dX7_correctSkew_26 : decode cX7_correctSkew 26 = .ok (.istore_n 2, 1) := by decide +kernel
theorem dX7_correctSkew_27 : decode cX7_correctSkew 27 = .ok (.aload_n 0, 1) := by decide +kernel
theorem dX7_correctSkew_28 : decode cX7_correctSkew 28 = .ok (.getfield 18, 3) := by decide +kernel
theorem dX7_correctSkew_31 : decode cX7_correctSkew 31 = .ok (.iload_n 2, 1) := by decide +kernel
theorem dX7_correctSkew_32 : decode cX7_correctSkew 32 = .ok (.iload_n 1, 1) := by decide +kernel
theorem dX7_correctSkew_33 : decode cX7_correctSkew 33 = .ok (.aload_n 0, 1) := by decide +kernel
theorem dX7_correctSkew_34 : decode cX7_correctSkew 34 = .ok (.bipush 7, 2) := by decide +kernel
theorem dX7_correctSkew_36 : decode cX7_correctSkew 36 = .ok (.invokevirtual 70, 3) := by decide +kernel
theorem dX7_correctSkew_39 : decode cX7_correctSkew 39 = .ok (.invokestatic 111, 3) := by decide +kernel
theorem dX7_correctSkew_42 : decode cX7_correctSkew 42 = .ok (.iadd, 1) := by decide +kernel
theorem dX7_correctSkew_43 : decode cX7_correctSkew 43 = .ok (.sipush 3000, 3) := by decide +kernel
theorem dX7_correctSkew_46 : decode cX7_correctSkew 46 = .ok (.invokestatic 111, 3) := by decide +kernel
theorem dX7_correctSkew_49 : decode cX7_correctSkew 49 = .ok (.putfield 121, 3) := by decide +kernel
theorem dX7_correctSkew_52 : decode cX7_correctSkew 52 = .ok (.aload_n 0, 1) := by decide +kernel
theorem dX7_correctSkew_53 : decode cX7_correctSkew 53 = .ok (.getfield 18, 3) := by decide +kernel
theorem dX7_correctSkew_56 : decode cX7_correctSkew 56 = .ok (.getfield 121, 3) := by decide +kernel
theorem dX7_correctSkew_59 : decode cX7_correctSkew 59 = .ok (.iload_n 2, 1) := by decide +kernel
theorem dX7_correctSkew_60 : decode cX7_correctSkew 60 = .ok (.isub, 1) := by decide +kernel
theorem dX7_correctSkew_61 : decode cX7_correctSkew 61 = .ok (.ireturn, 1) := by decide +kernel
theorem dX7_endRepeat_0 : decode cX7_endRepeat 0 = .ok (.aload_n 0, 1) := by decide +kernel
theorem dX7_endRepeat_1 : decode cX7_endRepeat 1 = .ok (.getfield 25, 3) := by decide +kernel
theorem dX7_endRepeat_4 : decode cX7_endRepeat 4 = .ok (.invokevirtual 124, 3) := by decide +kernel
theorem dX7_endRepeat_7 : decode cX7_endRepeat 7 = .ok (.aload_n 0, 1) := by decide +kernel
theorem dX7_endRepeat_8 : decode cX7_endRepeat 8 = .ok (.getfield 18, 3) := by decide +kernel
theorem dX7_endRepeat_11 : decode cX7_endRepeat 11 = .ok (.aload_n 0, 1) := by decide +kernel
theorem dX7_endRepeat_12 : decode cX7_endRepeat 12 = .ok (.getfield 18, 3) := by decide +kernel
theorem dX7_endRepeat_15 : decode cX7_endRepeat 15 = .ok (.getfield 127, 3) := by decide +kernel
theorem dX7_endRepeat_18 : decode cX7_endRepeat 18 = .ok (.invokestatic 130, 3) := by decide +kernel
theorem dX7_endRepeat_21 : decode cX7_endRepeat 21 = .ok (.putfield 127, 3) := by decide +kernel
theorem dX7_endRepeat_24 : decode cX7_endRepeat 24 = .ok (.aload_n 0, 1) := by decide +kernel
theorem dX7_endRepeat_25 : decode cX7_endRepeat 25 = .ok (.getfield 32, 3) := by decide +kernel
theorem dX7_endRepeat_28 : decode cX7_endRepeat 28 = .ok (.aload_n 0, 1) := by decide +kernel
theorem dX7_endRepeat_29 : decode cX7_endRepeat 29 = .ok (.getfield 32, 3) := by decide +kernel
theorem dX7_endRepeat_32 : decode cX7_endRepeat 32 = .ok (.getfield 133, 3) := by decide +kernel
theorem dX7_endRepeat_35 : decode cX7_endRepeat 35 = .ok (.invokestatic 130, 3) := by decide +kernel
theorem dX7_endRepeat_38 : decode cX7_endRepeat 38 = .ok (.putfield 133, 3) := by decide +kernel
theorem dX7_endRepeat_41 : decode cX7_endRepeat 41 = .ok (.aload_n 0, 1) := by decide +kernel
theorem dX7_endRepeat_42 : decode cX7_endRepeat 42 = .ok (.getfield 32, 3) := by decide +kernel
theorem dX7_endRepeat_45 : decode cX7_endRepeat 45 = .ok (.aload_n 0, 1) := by decide +kernel
theorem dX7_endRepeat_46 : decode cX7_endRepeat 46 = .ok (.getfield 32, 3) := by decide +kernel
theorem dX7_endRepeat_49 : decode cX7_endRepeat 49 = .ok (.getfield 136, 3) := by decide +kernel
theorem dX7_endRepeat_52 : decode cX7_endRepeat 52 = .ok (.invokestatic 130, 3) := by decide +kernel
theorem dX7_endRepeat_55 : decode cX7_endRepeat 55 = .ok (.putfield 136, 3) := by decide +kernel
theorem dX7_endRepeat_58 : decode cX7_endRepeat 58 = .ok (.return_, 1) := by decide +kernel
theorem dX8_init_0 : decode cX8_init 0 = .ok (.aload_n 0, 1) := by decide +kernel
theorem dX8_init_1 : decode cX8_init 1 = .ok (.invokespecial 1, 3) := by decide +kernel
theorem dX8_init_4 : decode cX8_init 4 = .ok (.aload_n 0, 1) := by decide +kernel
theorem dX8_init_5 : decode cX8_init 5 = .ok (.new 7, 3) := by decide +kernel
theorem dX8_init_8 : decode cX8_init 8 = .ok (.dup, 1) := by decide +kernel
theorem dX8_init_9 : decode cX8_init 9 = .ok (.invokespecial 9, 3) := by decide +kernel
theorem dX8_init_12 : decode cX8_init 12 = .ok (.putfield 10, 3) := by decide +kernel
theorem dX8_init_15 : decode cX8_init 15 = .ok (.aload_n 0, 1) := by decide +kernel
theorem dX8_init_16 : decode cX8_init 16 = .ok (.new 7, 3) := by decide +kernel
theorem dX8_init_19 : decode cX8_init 19 = .ok (.dup, 1) := by decide +kernel
theorem dX8_init_20 : decode cX8_init 20 = .ok (.invokespecial 9, 3) := by decide +kernel
theorem dX8_init_23 : decode cX8_init 23 = .ok (.putfield 16, 3) := by decide +kernel
theorem dX8_init_26 : decode cX8_init 26 = .ok (.aload_n 0, 1) := by decide +kernel
theorem dX8_init_27 : decode cX8_init 27 = .ok (.new 19, 3) := by decide +kernel
theorem dX8_init_30 : decode cX8_init 30 = .ok (.dup, 1) := by decide +kernel
theorem dX8_init_31 : decode cX8_init 31 = .ok (.invokespecial 21, 3) := by decide +kernel
theorem dX8_init_34 : decode cX8_init 34 = .ok (.putfield 22, 3) := by decide +kernel
theorem dX8_init_37 : decode cX8_init 37 = .ok (.aload_n 0, 1) := by decide +kernel
theorem dX8_init_38 : decode cX8_init 38 = .ok (.new 19, 3) := by decide +kernel
theorem dX8_init_41 : decode cX8_init 41 = .ok (.dup, 1) := by decide +kernel
theorem dX8_init_42 : decode cX8_init 42 = .ok (.invokespecial 21, 3) := by decide +kernel
theorem dX8_init_45 : decode cX8_init 45 = .ok (.putfield 26, 3) := by decide +kernel
theorem dX8_init_48 : decode cX8_init 48 = .ok (.aload_n 0, 1) := by decide +kernel
theorem dX8_init_49 : decode cX8_init 49 = .ok (.new 29, 3) := by decide +kernel
theorem dX8_init_52 : decode cX8_init 52 = .ok (.dup, 1) := by decide +kernel
theorem dX8_init_53 : decode cX8_init 53 = .ok (.invokespecial 31, 3) := by decide +kernel
theorem dX8_init_56 : decode cX8_init 56 = .ok (.putfield 32, 3) := by decide +kernel
theorem dX8_init_59 : decode cX8_init 59 = .ok (.aload_n 0, 1) := by decide +kernel
theorem dX8_init_60 : decode cX8_init 60 = .ok (.getfield 10, 3) := by decide +kernel
theorem dX8_init_63 : decode cX8_init 63 = .ok (.iconst 3, 1) := by decide +kernel
theorem dX8_init_64 : decode cX8_init 64 = .ok (.invokevirtual 36, 3) := by decide +kernel
theorem dX8_init_67 : decode cX8_init 67 = .ok (.return_, 1) := by decide +kernel
theorem dX8_setUp_0 : decode cX8_setUp 0 = .ok (.iload_n 1, 1) := by decide +kernel
theorem dX8_setUp_1 : decode cX8_setUp 1 = .ok (.iconst 2, 1) := by decide +kernel
theorem dX8_setUp_2 : decode cX8_setUp 2 = .ok (.iconst 5, 1) := by decide +kernel
theorem dX8_setUp_3 : decode cX8_setUp 3 = .ok (.invokestatic 40, 3) := by decide +kernel
theorem dX8_setUp_6 : decode cX8_setUp 6 = .ok (.ifCond .eq 6, 3) := by decide +kernel
theorem dX8_setUp_9 : decode cX8_setUp 9 = .ok (.ldc 44, 2) := by decide +kernel
theorem dX8_setUp_11 : decode cX8_setUp 11 = .ok (.ireturn, 1) := by decide +kernel
theorem dX8_setUp_12 : decode cX8_setUp 12 = .ok (.aload_n 0, 1) := by decide +kernel
theorem dX8_setUp_13 : decode cX8_setUp 13 = .ok (.getfield 10, 3) := by decide +kernel
theorem dX8_setUp_16 : decode cX8_setUp 16 = .ok (.getfield 45, 3) := by decide +kernel
theorem dX8_setUp_19 : decode cX8_setUp 19 = .ok (.istore_n 2, 1) := by decide +kernel
theorem dX8_setUp_20 : decode cX8_setUp 20 = .ok (.aload_n 0, 1) := by decide +kernel
theorem dX8_setUp_21 : decode cX8_setUp 21 = .ok (.getfield 10, 3) := by decide +kernel
theorem dX8_setUp_24 : decode cX8_setUp 24 = .ok (.iload_n 1, 1) := by decide +kernel
theorem dX8_setUp_25 : decode cX8_setUp 25 = .ok (.invokevirtual 36, 3) := by decide +kernel
theorem dX8_setUp_28 : decode cX8_setUp 28 = .ok (.iload_n 2, 1) := by decide +kernel
theorem dX8_setUp_29 : decode cX8_setUp 29 = .ok (.ireturn, 1) := by decide +kernel
theorem dX8_set_0 : decode cX8_set 0 = .ok (.aload_n 0, 1) := by decide +kernel
theorem dX8_set_1 : decode cX8_set 1 = .ok (.getfield 10, 3) := by decide +kernel
theorem dX8_set_4 : decode cX8_set 4 = .ok (.iload_n 1, 1) := by decide +kernel
theorem dX8_set_5 : decode cX8_set 5 = .ok (.invokevirtual 49, 3) := by decide +kernel
theorem dX8_set_8 : decode cX8_set 8 = .ok (.astore 4, 2) := by decide +kernel
theorem dX8_set_10 : decode cX8_set 10 = .ok (.aload 4, 2) := by decide +kernel
theorem dX8_set_12 : decode cX8_set 12 = .ok (.ifnonnull 6, 3) := by decide +kernel
theorem dX8_set_15 : decode cX8_set 15 = .ok (.ldc 53, 2) := by decide +kernel
theorem dX8_set_17 : decode cX8_set 17 = .ok (.ireturn, 1) := by decide +kernel
theorem dX8_set_18 : decode cX8_set 18 = .ok (.iload_n 2, 1) := by decide +kernel
theorem dX8_set_19 : decode cX8_set 19 = .ok (.iload_n 3, 1) := by decide +kernel
theorem dX8_set_20 : decode cX8_set 20 = .ok (.invokestatic 54, 3) := by decide +kernel
theorem dX8_set_23 : decode cX8_set 23 = .ok (.ifCond .ne 6, 3) := by decide +kernel
theorem dX8_set_26 : decode cX8_set 26 = .ok (.ldc 44, 2) := by decide +kernel
theorem dX8_set_28 : decode cX8_set 28 = .ok (.ireturn, 1) := by decide +kernel
theorem dX8_set_29 : decode cX8_set 29 = .ok (.iload_n 2, 1) := by decide +kernel
theorem dX8_set_30 : decode cX8_set 30 = .ok (.invokestatic 58, 3) := by decide +kernel
theorem dX8_set_33 : decode cX8_set 33 = .ok (.ifCond .eq 16, 3) := by decide +kernel
theorem dX8_set_36 : decode cX8_set 36 = .ok (.aload_n 0, 1) := by decide +kernel
theorem dX8_set_37 : decode cX8_set 37 = .ok (.getfield 10, 3) := by decide +kernel
theorem dX8_set_40 : decode cX8_set 40 = .ok (.getfield 45, 3) := by decide +kernel
theorem dX8_set_43 : decode cX8_set 43 = .ok (.ifCond .eq 6, 3) := by decide +kernel
theorem dX8_set_46 : decode cX8_set 46 = .ok (.ldc 62, 2) := by decide +kernel
theorem dX8_set_48 : decode cX8_set 48 = .ok (.ireturn, 1) := by decide +kernel
theorem dX8_set_49 : decode cX8_set 49 = .ok (.aload 4, 2) := by decide +kernel
theorem dX8_set_51 : decode cX8_set 51 = .ok (.iload_n 2, 1) := by decide +kernel
theorem dX8_set_52 : decode cX8_set 52 = .ok (.invokevirtual 63, 3) := by decide +kernel
theorem dX8_set_55 : decode cX8_set 55 = .ok (.istore 5, 2) := by decide +kernel
theorem dX8_set_57 : decode cX8_set 57 = .ok (.aload 4, 2) := by decide +kernel
theorem dX8_set_59 : decode cX8_set 59 = .ok (.iload_n 2, 1) := by decide +kernel
theorem dX8_set_60 : decode cX8_set 60 = .ok (.iload_n 3, 1) := by decide +kernel
theorem dX8_set_61 : decode cX8_set 61 = .ok (.invokevirtual 69, 3) := by decide +kernel
theorem dX8_set_64 : decode cX8_set 64 = .ok (.iload 5, 2) := by decide +kernel
theorem dX8_set_66 : decode cX8_set 66 = .ok (.ireturn, 1) := by decide +kernel
theorem dX8_get_0 : decode cX8_get 0 = .ok (.aload_n 0, 1) := by decide +kernel
theorem dX8_get_1 : decode cX8_get 1 = .ok (.getfield 10, 3) := by decide +kernel
theorem dX8_get_4 : decode cX8_get 4 = .ok (.iload_n 1, 1) := by decide +kernel
theorem dX8_get_5 : decode cX8_get 5 = .ok (.invokevirtual 49, 3) := by decide +kernel
theorem dX8_get_8 : decode cX8_get 8 = .ok (.astore_n 3, 1) := by decide +kernel
theorem dX8_get_9 : decode cX8_get 9 = .ok (.aload_n 3, 1) := by decide +kernel
theorem dX8_get_10 : decode cX8_get 10 = .ok (.ifnonnull 6, 3) := by decide +kernel
theorem dX8_get_13 : decode cX8_get 13 = .ok (.ldc 53, 2) := by decide +kernel
theorem dX8_get_15 : decode cX8_get 15 = .ok (.ireturn, 1) := by decide +kernel
theorem dX8_get_16 : decode cX8_get 16 = .ok (.iload_n 2, 1) := by decide +kernel
theorem dX8_get_17 : decode cX8_get 17 = .ok (.iconst 0, 1) := by decide +kernel
theorem dX8_get_18 : decode cX8_get 18 = .ok (.bipush 10, 2) := by decide +kernel
theorem dX8_get_20 : decode cX8_get 20 = .ok (.invokestatic 40, 3) := by decide +kernel
theorem dX8_get_23 : decode cX8_get 23 = .ok (.ifCond .eq 6, 3) := by decide +kernel
theorem dX8_get_26 : decode cX8_get 26 = .ok (.ldc 44, 2) := by decide +kernel
theorem dX8_get_28 : decode cX8_get 28 = .ok (.ireturn, 1) := by decide +kernel
theorem dX8_get_29 : decode cX8_get 29 = .ok (.aload_n 3, 1) := by decide +kernel
theorem dX8_get_30 : decode cX8_get 30 = .ok (.iload_n 2, 1) := by decide +kernel
theorem dX8_get_31 : decode cX8_get 31 = .ok (.invokevirtual 63, 3) := by decide +kernel
theorem dX8_get_34 : decode cX8_get 34 = .ok (.ireturn, 1) := by decide +kernel
theorem dX8_adjust_0 : decode cX8_adjust 0 = .ok (.aload_n 0, 1) := by decide +kernel
theorem dX8_adjust_1 : decode cX8_adjust 1 = .ok (.getfield 10, 3) := by decide +kernel
theorem dX8_adjust_4 : decode cX8_adjust 4 = .ok (.iload_n 1, 1) := by decide +kernel
theorem dX8_adjust_5 : decode cX8_adjust 5 = .ok (.invokevirtual 49, 3) := by decide +kernel
theorem dX8_adjust_8 : decode cX8_adjust 8 = .ok (.astore 4, 2) := by decide +kernel
theorem dX8_adjust_10 : decode cX8_adjust 10 = .ok (.aload 4, 2) := by decide +kernel
theorem dX8_adjust_12 : decode cX8_adjust 12 = .ok (.ifnonnull 6, 3) := by decide +kernel
theorem dX8_adjust_15 : decode cX8_adjust 15 = .ok (.ldc 53, 2) := by decide +kernel
theorem dX8_adjust_17 : decode cX8_adjust 17 = .ok (.ireturn, 1) := by decide +kernel
theorem dX8_adjust_18 : decode cX8_adjust 18 = .ok (.iload_n 2, 1) := by decide +kernel
theorem dX8_adjust_19 : decode cX8_adjust 19 = .ok (.iconst 0, 1) := by decide +kernel
theorem dX8_adjust_20 : decode cX8_adjust 20 = .ok (.iconst 2, 1) := by decide +kernel
theorem dX8_adjust_21 : decode cX8_adjust 21 = .ok (.invokestatic 40, 3) := by decide +kernel
theorem dX8_adjust_24 : decode cX8_adjust 24 = .ok (.ifCond .eq 6, 3) := by decide +kernel
theorem dX8_adjust_27 : decode cX8_adjust 27 = .ok (.ldc 44, 2) := by decide +kernel
theorem dX8_adjust_29 : decode cX8_adjust 29 = .ok (.ireturn, 1) := by decide +kernel
theorem dX8_adjust_30 : decode cX8_adjust 30 = .ok (.iload_n 3, 1) := by decide +kernel
theorem dX8_adjust_31 : decode cX8_adjust 31 = .ok (.getstatic 73, 3) := by decide +kernel
theorem dX8_adjust_34 : decode cX8_adjust 34 = .ok (.iload_n 2, 1) := by decide +kernel
theorem dX8_adjust_35 : decode cX8_adjust 35 = .ok (.iaload, 1) := by decide +kernel
theorem dX8_adjust_36 : decode cX8_adjust 36 = .ok (.ineg, 1) := by decide +kernel
theorem dX8_adjust_37 : decode cX8_adjust 37 = .ok (.getstatic 73, 3) := by decide +kernel
theorem dX8_adjust_40 : decode cX8_adjust 40 = .ok (.iload_n 2, 1) := by decide +kernel
theorem dX8_adjust_41 : decode cX8_adjust 41 = .ok (.iaload, 1) := by decide +kernel
theorem dX8_adjust_42 : decode cX8_adjust 42 = .ok (.invokestatic 40, 3) := by decide +kernel
theorem dX8_adjust_45 : decode cX8_adjust 45 = .ok (.ifCond .eq 6, 3) := by decide +kernel
theorem dX8_adjust_48 : decode cX8_adjust 48 = .ok (.ldc 44, 2) := by decide +kernel
theorem dX8_adjust_50 : decode cX8_adjust 50 = .ok (.ireturn, 1) := by decide +kernel
theorem dX8_adjust_51 : decode cX8_adjust 51 = .ok (.aload 4, 2) := by decide +kernel
theorem dX8_adjust_53 : decode cX8_adjust 53 = .ok (.getfield 77, 3) := by decide +kernel
theorem dX8_adjust_56 : decode cX8_adjust 56 = .ok (.iload_n 2, 1) := by decide +kernel
theorem dX8_adjust_57 : decode cX8_adjust 57 = .ok (.invokevirtual 81, 3) := by decide +kernel
theorem dX8_adjust_60 : decode cX8_adjust 60 = .ok (.istore 5, 2) := by decide +kernel
theorem dX8_adjust_62 : decode cX8_adjust 62 = .ok (.aload 4, 2) := by decide +kernel
theorem dX8_adjust_64 : decode cX8_adjust 64 = .ok (.getfield 77, 3) := by decide +kernel
theorem dX8_adjust_67 : decode cX8_adjust 67 = .ok (.iload_n 2, 1) := by decide +kernel
theorem dX8_adjust_68 : decode cX8_adjust 68 = .ok (.iload_n 3, 1) := by decide +kernel
theorem dX8_adjust_69 : decode cX8_adjust 69 = .ok (.invokevirtual 86, 3) := by decide +kernel
theorem dX8_adjust_72 : decode cX8_adjust 72 = .ok (.iload 5, 2) := by decide +kernel
theorem dX8_adjust_74 : decode cX8_adjust 74 = .ok (.ireturn, 1) := by decide +kernel
theorem dX8_speed_0 : decode cX8_speed 0 = .ok (.iload_n 1, 1) := by decide +kernel
theorem dX8_speed_1 : decode cX8_speed 1 = .ok (.iconst 0, 1) := by decide +kernel
theorem dX8_speed_2 : decode cX8_speed 2 = .ok (.sipush 1000, 3) := by decide +kernel
theorem dX8_speed_5 : decode cX8_speed 5 = .ok (.invokestatic 40, 3) := by decide +kernel
theorem dX8_speed_8 : decode cX8_speed 8 = .ok (.ifCond .eq 6, 3) := by decide +kernel
theorem dX8_speed_11 : decode cX8_speed 11 = .ok (.ldc 44, 2) := by decide +kernel
theorem dX8_speed_13 : decode cX8_speed 13 = .ok (.ireturn, 1) := by decide +kernel
theorem dX8_speed_14 : decode cX8_speed 14 = .ok (.aload_n 0, 1) := by decide +kernel
theorem dX8_speed_15 : decode cX8_speed 15 = .ok (.getfield 10, 3) := by decide +kernel
theorem dX8_speed_18 : decode cX8_speed 18 = .ok (.getfield 101, 3) := by decide +kernel
theorem dX8_speed_21 : decode cX8_speed 21 = .ok (.istore_n 2, 1) := by decide +kernel
theorem dX8_speed_22 : decode cX8_speed 22 = .ok (.aload_n 0, 1) := by decide +kernel
theorem dX8_speed_23 : decode cX8_speed 23 = .ok (.getfield 10, 3) := by decide +kernel
theorem dX8_speed_26 : decode cX8_speed 26 = .ok (.iload_n 1, 1) := by decide +kernel
theorem dX8_speed_27 : decode cX8_speed 27 = .ok (.putfield 101, 3) := by decide +kernel
theorem dX8_speed_30 : decode cX8_speed 30 = .ok (.iload_n 2, 1) := by decide +kernel
theorem dX8_speed_31 : decode cX8_speed 31 = .ok (.ireturn, 1) := by decide +kernel
theorem dX8_disturb_0 : decode cX8_disturb 0 = .ok (.aload_n 0, 1) := by decide +kernel
theorem dX8_disturb_1 : decode cX8_disturb 1 = .ok (.getfield 10, 3) := by decide +kernel
theorem dX8_disturb_4 : decode cX8_disturb 4 = .ok (.iload_n 1, 1) := by decide +kernel
theorem dX8_disturb_5 : decode cX8_disturb 5 = .ok (.invokevirtual 49, 3) := by decide +kernel
theorem dX8_disturb_8 : decode cX8_disturb 8 = .ok (.astore 4, 2) := by decide +kernel
theorem dX8_disturb_10 : decode cX8_disturb 10 = .ok (.aload 4, 2) := by decide +kernel
theorem dX8_disturb_12 : decode cX8_disturb 12 = .ok (.ifnonnull 6, 3) := by decide +kernel
theorem dX8_disturb_15 : decode cX8_disturb 15 = .ok (.ldc 53, 2) := by decide +kernel
theorem dX8_disturb_17 : decode cX8_disturb 17 = .ok (.ireturn, 1) := by decide +kernel
theorem dX8_disturb_18 : decode cX8_disturb 18 = .ok (.iload_n 2, 1) := by decide +kernel
theorem dX8_disturb_19 : decode cX8_disturb 19 = .ok (.iload_n 3, 1) := by decide +kernel
theorem dX8_disturb_20 : decode cX8_disturb 20 = .ok (.invokestatic 104, 3) := by decide +kernel
theorem dX8_disturb_23 : decode cX8_disturb 23 = .ok (.ifCond .ne 6, 3) := by decide +kernel
theorem dX8_disturb_26 : decode cX8_disturb 26 = .ok (.ldc 44, 2) := by decide +kernel
theorem dX8_disturb_28 : decode cX8_disturb 28 = .ok (.ireturn, 1) := by decide +kernel
theorem dX8_disturb_29 : decode cX8_disturb 29 = .ok (.aload 4, 2) := by decide +kernel
theorem dX8_disturb_31 : decode cX8_disturb 31 = .ok (.getfield 77, 3) := by decide +kernel
theorem dX8_disturb_34 : decode cX8_disturb 34 = .ok (.iload_n 2, 1) := by decide +kernel
theorem dX8_disturb_35 : decode cX8_disturb 35 = .ok (.iload_n 3, 1) := by decide +kernel
theorem dX8_disturb_36 : decode cX8_disturb 36 = .ok (.invokevirtual 107, 3) := by decide +kernel
theorem dX8_disturb_39 : decode cX8_disturb 39 = .ok (.aload_n 0, 1) := by decide +kernel
theorem dX8_disturb_40 : decode cX8_disturb 40 = .ok (.getfield 10, 3) := by decide +kernel
theorem dX8_disturb_43 : decode cX8_disturb 43 = .ok (.getfield 45, 3) := by decide +kernel
theorem dX8_disturb_46 : decode cX8_disturb 46 = .ok (.ireturn, 1) := by decide +kernel
theorem dX8_hide_0 : decode cX8_hide 0 = .ok (.aload_n 0, 1) := by decide +kernel
theorem dX8_hide_1 : decode cX8_hide 1 = .ok (.getfield 10, 3) := by decide +kernel
theorem dX8_hide_4 : decode cX8_hide 4 = .ok (.iload_n 1, 1) := by decide +kernel
theorem dX8_hide_5 : decode cX8_hide 5 = .ok (.invokevirtual 49, 3) := by decide +kernel
theorem dX8_hide_8 : decode cX8_hide 8 = .ok (.astore_n 3, 1) := by decide +kernel
theorem dX8_hide_9 : decode cX8_hide 9 = .ok (.aload_n 3, 1) := by decide +kernel
theorem dX8_hide_10 : decode cX8_hide 10 = .ok (.ifnonnull 6, 3) := by decide +kernel
theorem dX8_hide_13 : decode cX8_hide 13 = .ok (.ldc 53, 2) := by decide +kernel
theorem dX8_hide_15 : decode cX8_hide 15 = .ok (.ireturn, 1) := by decide +kernel
theorem dX8_hide_16 : decode cX8_hide 16 = .ok (.iload_n 2, 1) := by decide +kernel
theorem dX8_hide_17 : decode cX8_hide 17 = .ok (.iconst 0, 1) := by decide +kernel
theorem dX8_hide_18 : decode cX8_hide 18 = .ok (.bipush 50, 2) := by decide +kernel
theorem dX8_hide_20 : decode cX8_hide 20 = .ok (.invokestatic 40, 3) := by decide +kernel
theorem dX8_hide_23 : decode cX8_hide 23 = .ok (.ifCond .eq 6, 3) := by decide +kernel
theorem dX8_hide_26 : decode cX8_hide 26 = .ok (.ldc 44, 2) := by decide +kernel
theorem dX8_hide_28 : decode cX8_hide 28 = .ok (.ireturn, 1) := by decide +kernel
theorem dX8_hide_29 : decode cX8_hide 29 = .ok (.aload_n 3, 1) := by decide +kernel
theorem dX8_hide_30 : decode cX8_hide 30 = .ok (.getfield 110, 3) := by decide +kernel
theorem dX8_hide_33 : decode cX8_hide 33 = .ok (.getfield 114, 3) := by decide +kernel
theorem dX8_hide_36 : decode cX8_hide 36 = .ok (.istore 4, 2) := by decide +kernel
theorem dX8_hide_38 : decode cX8_hide 38 = .ok (.aload_n 3, 1) := by decide +kernel
theorem dX8_hide_39 : decode cX8_hide 39 = .ok (.getfield 110, 3) := by decide +kernel
theorem dX8_hide_42 : decode cX8_hide 42 = .ok (.iload_n 2, 1) := by decide +kernel
theorem dX8_hide_43 : decode cX8_hide 43 = .ok (.putfield 114, 3) := by decide +kernel
theorem dX8_hide_46 : decode cX8_hide 46 = .ok (.iload 4, 2) := by decide +kernel
theorem dX8_hide_48 : decode cX8_hide 48 = .ok (.ireturn, 1) := by decide +kernel
theorem dX8_falseMark_0 : decode cX8_falseMark 0 = .ok (.aload_n 0, 1) := by decide +kernel
theorem dX8_falseMark_1 : decode cX8_falseMark 1 = .ok (.getfield 10, 3) := by decide +kernel
theorem dX8_falseMark_4 : decode cX8_falseMark 4 = .ok (.iload_n 1, 1) := by decide +kernel
theorem dX8_falseMark_5 : decode cX8_falseMark 5 = .ok (.invokevirtual 49, 3) := by decide +kernel
theorem dX8_falseMark_8 : decode cX8_falseMark 8 = .ok (.astore 4, 2) := by decide +kernel
theorem dX8_falseMark_10 : decode cX8_falseMark 10 = .ok (.aload 4, 2) := by decide +kernel
theorem dX8_falseMark_12 : decode cX8_falseMark 12 = .ok (.ifnonnull 6, 3) := by decide +kernel
theorem dX8_falseMark_15 : decode cX8_falseMark 15 = .ok (.ldc 53, 2) := by decide +kernel
theorem dX8_falseMark_17 : decode cX8_falseMark 17 = .ok (.ireturn, 1) := by decide +kernel
theorem dX8_falseMark_18 : decode cX8_falseMark 18 = .ok (.iload_n 2, 1) := by decide +kernel
theorem dX8_falseMark_19 : decode cX8_falseMark 19 = .ok (.sipush (-3000), 3) := by decide +kernel
theorem dX8_falseMark_22 : decode cX8_falseMark 22 = .ok (.sipush 3000, 3) := by decide +kernel
theorem dX8_falseMark_25 : decode cX8_falseMark 25 = .ok (.invokestatic 40, 3) := by decide +kernel
theorem dX8_falseMark_28 : decode cX8_falseMark 28 = .ok (.ifCond .eq 6, 3) := by decide +kernel
theorem dX8_falseMark_31 : decode cX8_falseMark 31 = .ok (.ldc 44, 2) := by decide +kernel
theorem dX8_falseMark_33 : decode cX8_falseMark 33 = .ok (.ireturn, 1) := by decide +kernel
theorem dX8_falseMark_34 : decode cX8_falseMark 34 = .ok (.iload_n 3, 1) := by decide +kernel
theorem dX8_falseMark_35 : decode cX8_falseMark 35 = .ok (.iconst 0, 1) := by decide +kernel
theorem dX8_falseMark_36 : decode cX8_falseMark 36 = .ok (.bipush 50, 2) := by decide +kernel
theorem dX8_falseMark_38 : decode cX8_falseMark 38 = .ok (.invokestatic 40, 3) := by decide +kernel
theorem dX8_falseMark_41 : decode cX8_falseMark 41 = .ok (.ifCond .eq 6, 3) := by decide +kernel
theorem dX8_falseMark_44 : decode cX8_falseMark 44 = .ok (.ldc 44, 2) := by decide +kernel
theorem dX8_falseMark_46 : decode cX8_falseMark 46 = .ok (.ireturn, 1) := by decide +kernel
theorem dX8_falseMark_47 : decode cX8_falseMark 47 = .ok (.aload 4, 2) := by decide +kernel
theorem dX8_falseMark_49 : decode cX8_falseMark 49 = .ok (.getfield 110, 3) := by decide +kernel
theorem dX8_falseMark_52 : decode cX8_falseMark 52 = .ok (.getfield 119, 3) := by decide +kernel
theorem dX8_falseMark_55 : decode cX8_falseMark 55 = .ok (.istore 5, 2) := by decide +kernel
theorem dX8_falseMark_57 : decode cX8_falseMark 57 = .ok (.aload 4, 2) := by decide +kernel
theorem dX8_falseMark_59 : decode cX8_falseMark 59 = .ok (.getfield 110, 3) := by decide +kernel
theorem dX8_falseMark_62 : decode cX8_falseMark 62 = .ok (.iload_n 2, 1) := by decide +kernel
theorem dX8_falseMark_63 : decode cX8_falseMark 63 = .ok (.putfield 122, 3) := by decide +kernel
theorem dX8_falseMark_66 : decode cX8_falseMark 66 = .ok (.aload 4, 2) := by decide +kernel
theorem dX8_falseMark_68 : decode cX8_falseMark 68 = .ok (.getfield 110, 3) := by decide +kernel
theorem dX8_falseMark_71 : decode cX8_falseMark 71 = .ok (.iload_n 3, 1) := by decide +kernel
theorem dX8_falseMark_72 : decode cX8_falseMark 72 = .ok (.putfield 119, 3) := by decide +kernel
theorem dX8_falseMark_75 : decode cX8_falseMark 75 = .ok (.iload 5, 2) := by decide +kernel
theorem dX8_falseMark_77 : decode cX8_falseMark 77 = .ok (.ireturn, 1) := by decide +kernel
theorem dX8_splice_0 : decode cX8_splice 0 = .ok (.iload_n 1, 1) := by decide +kernel
theorem dX8_splice_1 : decode cX8_splice 1 = .ok (.iload_n 2, 1) := by decide +kernel
theorem dX8_splice_2 : decode cX8_splice 2 = .ok (.invokestatic 104, 3) := by decide +kernel
theorem dX8_splice_5 : decode cX8_splice 5 = .ok (.ifCond .ne 6, 3) := by decide +kernel
theorem dX8_splice_8 : decode cX8_splice 8 = .ok (.ldc 44, 2) := by decide +kernel
theorem dX8_splice_10 : decode cX8_splice 10 = .ok (.ireturn, 1) := by decide +kernel
theorem dX8_splice_11 : decode cX8_splice 11 = .ok (.aload_n 0, 1) := by decide +kernel
theorem dX8_splice_12 : decode cX8_splice 12 = .ok (.getfield 10, 3) := by decide +kernel
theorem dX8_splice_15 : decode cX8_splice 15 = .ok (.iload_n 1, 1) := by decide +kernel
theorem dX8_splice_16 : decode cX8_splice 16 = .ok (.iload_n 2, 1) := by decide +kernel
theorem dX8_splice_17 : decode cX8_splice 17 = .ok (.invokevirtual 125, 3) := by decide +kernel
theorem dX8_splice_20 : decode cX8_splice 20 = .ok (.aload_n 0, 1) := by decide +kernel
theorem dX8_splice_21 : decode cX8_splice 21 = .ok (.getfield 10, 3) := by decide +kernel
theorem dX8_splice_24 : decode cX8_splice 24 = .ok (.invokevirtual 128, 3) := by decide +kernel
theorem dX8_splice_27 : decode cX8_splice 27 = .ok (.ireturn, 1) := by decide +kernel
theorem dX8_run_0 : decode cX8_run 0 = .ok (.iload_n 1, 1) := by decide +kernel
theorem dX8_run_1 : decode cX8_run 1 = .ok (.iconst 1, 1) := by decide +kernel
theorem dX8_run_2 : decode cX8_run 2 = .ok (.sipush 300, 3) := by decide +kernel
theorem dX8_run_5 : decode cX8_run 5 = .ok (.invokestatic 40, 3) := by decide +kernel
theorem dX8_run_8 : decode cX8_run 8 = .ok (.ifCond .eq 6, 3) := by decide +kernel
theorem dX8_run_11 : decode cX8_run 11 = .ok (.ldc 44, 2) := by decide +kernel
theorem dX8_run_13 : decode cX8_run 13 = .ok (.ireturn, 1) := by decide +kernel
theorem dX8_run_14 : decode cX8_run 14 = .ok (.aload_n 0, 1) := by decide +kernel
theorem dX8_run_15 : decode cX8_run 15 = .ok (.getfield 10, 3) := by decide +kernel
theorem dX8_run_18 : decode cX8_run 18 = .ok (.getfield 45, 3) := by decide +kernel
theorem dX8_run_21 : decode cX8_run 21 = .ok (.iload_n 1, 1) := by decide +kernel
theorem dX8_run_22 : decode cX8_run 22 = .ok (.iadd, 1) := by decide +kernel
theorem dX8_run_23 : decode cX8_run 23 = .ok (.ldc 132, 2) := by decide +kernel
theorem dX8_run_25 : decode cX8_run 25 = .ok (.if_icmp .le 6, 3) := by decide +kernel
theorem dX8_run_28 : decode cX8_run 28 = .ok (.ldc 62, 2) := by decide +kernel
theorem dX8_run_30 : decode cX8_run 30 = .ok (.ireturn, 1) := by decide +kernel
theorem dX8_run_31 : decode cX8_run 31 = .ok (.iconst 0, 1) := by decide +kernel
theorem dX8_run_32 : decode cX8_run 32 = .ok (.istore_n 2, 1) := by decide +kernel
theorem dX8_run_33 : decode cX8_run 33 = .ok (.iload_n 2, 1) := by decide +kernel
theorem dX8_run_34 : decode cX8_run 34 = .ok (.iload_n 1, 1) := by decide +kernel
theorem dX8_run_35 : decode cX8_run 35 = .ok (.if_icmp .ge 16, 3) := by decide +kernel
theorem dX8_run_38 : decode cX8_run 38 = .ok (.aload_n 0, 1) := by decide +kernel
theorem dX8_run_39 : decode cX8_run 39 = .ok (.getfield 10, 3) := by decide +kernel
theorem dX8_run_42 : decode cX8_run 42 = .ok (.invokevirtual 133, 3) := by decide +kernel
theorem dX8_run_45 : decode cX8_run 45 = .ok (.iinc 2 1, 3) := by decide +kernel
theorem dX8_run_48 : decode cX8_run 48 = .ok (.goto (-15), 3) := by decide +kernel
theorem dX8_run_51 : decode cX8_run 51 = .ok (.aload_n 0, 1) := by decide +kernel
theorem dX8_run_52 : decode cX8_run 52 = .ok (.getfield 10, 3) := by decide +kernel
theorem dX8_run_55 : decode cX8_run 55 = .ok (.getfield 45, 3) := by decide +kernel
theorem dX8_run_58 : decode cX8_run 58 = .ok (.ireturn, 1) := by decide +kernel
theorem dX8_seen_0 : decode cX8_seen 0 = .ok (.aload_n 0, 1) := by decide +kernel
theorem dX8_seen_1 : decode cX8_seen 1 = .ok (.getfield 10, 3) := by decide +kernel
theorem dX8_seen_4 : decode cX8_seen 4 = .ok (.iload_n 1, 1) := by decide +kernel
theorem dX8_seen_5 : decode cX8_seen 5 = .ok (.invokevirtual 49, 3) := by decide +kernel
theorem dX8_seen_8 : decode cX8_seen 8 = .ok (.astore_n 3, 1) := by decide +kernel
theorem dX8_seen_9 : decode cX8_seen 9 = .ok (.aload_n 3, 1) := by decide +kernel
theorem dX8_seen_10 : decode cX8_seen 10 = .ok (.ifnonnull 6, 3) := by decide +kernel
theorem dX8_seen_13 : decode cX8_seen 13 = .ok (.ldc 53, 2) := by decide +kernel
theorem dX8_seen_15 : decode cX8_seen 15 = .ok (.ireturn, 1) := by decide +kernel
theorem dX8_seen_16 : decode cX8_seen 16 = .ok (.iload_n 2, 1) := by decide +kernel
theorem dX8_seen_17 : decode cX8_seen 17 = .ok (.iconst 0, 1) := by decide +kernel
theorem dX8_seen_18 : decode cX8_seen 18 = .ok (.bipush 6, 2) := by decide +kernel
theorem dX8_seen_20 : decode cX8_seen 20 = .ok (.invokestatic 40, 3) := by decide +kernel
theorem dX8_seen_23 : decode cX8_seen 23 = .ok (.ifCond .eq 6, 3) := by decide +kernel
theorem dX8_seen_26 : decode cX8_seen 26 = .ok (.ldc 44, 2) := by decide +kernel
theorem dX8_seen_28 : decode cX8_seen 28 = .ok (.ireturn, 1) := by decide +kernel
theorem dX8_seen_29 : decode cX8_seen 29 = .ok (.aload_n 0, 1) := by decide +kernel
theorem dX8_seen_30 : decode cX8_seen 30 = .ok (.getfield 10, 3) := by decide +kernel
theorem dX8_seen_33 : decode cX8_seen 33 = .ok (.getfield 45, 3) := by decide +kernel
theorem dX8_seen_36 : decode cX8_seen 36 = .ok (.ifCond .ne 6, 3) := by decide +kernel
theorem dX8_seen_39 : decode cX8_seen 39 = .ok (.ldc 62, 2) := by decide +kernel
theorem dX8_seen_41 : decode cX8_seen 41 = .ok (.ireturn, 1) := by decide +kernel
theorem dX8_seen_42 : decode cX8_seen 42 = .ok (.iload_n 2, 1) := by decide +kernel
theorem dX8_seen_43 : decode cX8_seen 43 = .ok (.ifCond .ne 20, 3) := by decide +kernel
theorem dX8_seen_46 : decode cX8_seen 46 = .ok (.aload_n 3, 1) := by decide +kernel
theorem dX8_seen_47 : decode cX8_seen 47 = .ok (.getfield 77, 3) := by decide +kernel
theorem dX8_seen_50 : decode cX8_seen 50 = .ok (.aload_n 0, 1) := by decide +kernel
theorem dX8_seen_51 : decode cX8_seen 51 = .ok (.getfield 10, 3) := by decide +kernel
theorem dX8_seen_54 : decode cX8_seen 54 = .ok (.getfield 45, 3) := by decide +kernel
theorem dX8_seen_57 : decode cX8_seen 57 = .ok (.iconst 1, 1) := by decide +kernel
theorem dX8_seen_58 : decode cX8_seen 58 = .ok (.isub, 1) := by decide +kernel
theorem dX8_seen_59 : decode cX8_seen 59 = .ok (.invokevirtual 136, 3) := by decide +kernel
theorem dX8_seen_62 : decode cX8_seen 62 = .ok (.ireturn, 1) := by decide +kernel
theorem dX8_seen_63 : decode cX8_seen 63 = .ok (.iload_n 2, 1) := by decide +kernel
theorem dX8_seen_64 : decode cX8_seen 64 = .ok (.iconst 1, 1) := by decide +kernel
theorem dX8_seen_65 : decode cX8_seen 65 = .ok (.if_icmp .ne 20, 3) := by decide +kernel
theorem dX8_seen_68 : decode cX8_seen 68 = .ok (.aload_n 3, 1) := by decide +kernel
theorem dX8_seen_69 : decode cX8_seen 69 = .ok (.getfield 77, 3) := by decide +kernel
theorem dX8_seen_72 : decode cX8_seen 72 = .ok (.aload_n 0, 1) := by decide +kernel
theorem dX8_seen_73 : decode cX8_seen 73 = .ok (.getfield 10, 3) := by decide +kernel
theorem dX8_seen_76 : decode cX8_seen 76 = .ok (.getfield 45, 3) := by decide +kernel
theorem dX8_seen_79 : decode cX8_seen 79 = .ok (.iconst 1, 1) := by decide +kernel
theorem dX8_seen_80 : decode cX8_seen 80 = .ok (.isub, 1) := by decide +kernel
theorem dX8_seen_81 : decode cX8_seen 81 = .ok (.invokevirtual 139, 3) := by decide +kernel
theorem dX8_seen_84 : decode cX8_seen 84 = .ok (.ireturn, 1) := by decide +kernel
theorem dX8_seen_85 : decode cX8_seen 85 = .ok (.aload_n 3, 1) := by decide +kernel
theorem dX8_seen_86 : decode cX8_seen 86 = .ok (.getfield 110, 3) := by decide +kernel
theorem dX8_seen_89 : decode cX8_seen 89 = .ok (.astore 4, 2) := by decide +kernel
theorem dX8_seen_91 : decode cX8_seen 91 = .ok (.iload_n 2, 1) := by decide +kernel
theorem dX8_seen_92 : decode cX8_seen 92 = .ok (.iconst 4, 1) := by decide +kernel
theorem dX8_seen_93 : decode cX8_seen 93 = .ok (.if_icmp .gt 11, 3) := by decide +kernel
theorem dX8_seen_96 : decode cX8_seen 96 = .ok (.aload 4, 2) := by decide +kernel
theorem dX8_seen_98 : decode cX8_seen 98 = .ok (.getfield 142, 3) := by decide +kernel
theorem dX8_seen_101 : decode cX8_seen 101 = .ok (.goto 16, 3) := by decide +kernel
theorem dX8_seen_104 : decode cX8_seen 104 = .ok (.aload 4, 2) := by decide +kernel
theorem dX8_seen_106 : decode cX8_seen 106 = .ok (.getfield 146, 3) := by decide +kernel
theorem dX8_seen_109 : decode cX8_seen 109 = .ok (.ifCond .eq 7, 3) := by decide +kernel
theorem dX8_seen_112 : decode cX8_seen 112 = .ok (.iconst 1, 1) := by decide +kernel
theorem dX8_seen_113 : decode cX8_seen 113 = .ok (.goto 4, 3) := by decide +kernel
theorem dX8_seen_116 : decode cX8_seen 116 = .ok (.iconst 0, 1) := by decide +kernel
theorem dX8_seen_117 : decode cX8_seen 117 = .ok (.istore 5, 2) := by decide +kernel
theorem dX8_seen_119 : decode cX8_seen 119 = .ok (.iload 5, 2) := by decide +kernel
theorem dX8_seen_121 : decode cX8_seen 121 = .ok (.ifCond .eq 12, 3) := by decide +kernel
theorem dX8_seen_124 : decode cX8_seen 124 = .ok (.aload 4, 2) := by decide +kernel
theorem dX8_seen_126 : decode cX8_seen 126 = .ok (.iload_n 2, 1) := by decide +kernel
theorem dX8_seen_127 : decode cX8_seen 127 = .ok (.invokevirtual 149, 3) := by decide +kernel
theorem dX8_seen_130 : decode cX8_seen 130 = .ok (.goto 5, 3) := by decide +kernel
theorem dX8_seen_133 : decode cX8_seen 133 = .ok (.ldc 152, 2) := by decide +kernel
theorem dX8_seen_135 : decode cX8_seen 135 = .ok (.ireturn, 1) := by decide +kernel
theorem dX8_state_0 : decode cX8_state 0 = .ok (.aload_n 0, 1) := by decide +kernel
theorem dX8_state_1 : decode cX8_state 1 = .ok (.getfield 10, 3) := by decide +kernel
theorem dX8_state_4 : decode cX8_state 4 = .ok (.iload_n 1, 1) := by decide +kernel
theorem dX8_state_5 : decode cX8_state 5 = .ok (.invokevirtual 49, 3) := by decide +kernel
theorem dX8_state_8 : decode cX8_state 8 = .ok (.astore_n 3, 1) := by decide +kernel
theorem dX8_state_9 : decode cX8_state 9 = .ok (.aload_n 3, 1) := by decide +kernel
theorem dX8_state_10 : decode cX8_state 10 = .ok (.ifnonnull 6, 3) := by decide +kernel
theorem dX8_state_13 : decode cX8_state 13 = .ok (.ldc 53, 2) := by decide +kernel
theorem dX8_state_15 : decode cX8_state 15 = .ok (.ireturn, 1) := by decide +kernel
theorem dX8_state_16 : decode cX8_state 16 = .ok (.iload_n 2, 1) := by decide +kernel
theorem dX8_state_17 : decode cX8_state 17 = .ok (.tableswitch 169 0 13 #[71, 71, 71, 80, 88, 96, 104, 112, 120, 128, 136, 144, 152, 160], 71) := by decide +kernel
theorem dX8_state_88 : decode cX8_state 88 = .ok (.aload_n 3, 1) := by decide +kernel
theorem dX8_state_89 : decode cX8_state 89 = .ok (.getfield 77, 3) := by decide +kernel
theorem dX8_state_92 : decode cX8_state 92 = .ok (.iload_n 2, 1) := by decide +kernel
theorem dX8_state_93 : decode cX8_state 93 = .ok (.invokevirtual 81, 3) := by decide +kernel
theorem dX8_state_96 : decode cX8_state 96 = .ok (.ireturn, 1) := by decide +kernel
theorem dX8_state_97 : decode cX8_state 97 = .ok (.aload_n 3, 1) := by decide +kernel
theorem dX8_state_98 : decode cX8_state 98 = .ok (.getfield 89, 3) := by decide +kernel
theorem dX8_state_101 : decode cX8_state 101 = .ok (.getfield 93, 3) := by decide +kernel
theorem dX8_state_104 : decode cX8_state 104 = .ok (.ireturn, 1) := by decide +kernel
theorem dX8_state_105 : decode cX8_state 105 = .ok (.aload_n 3, 1) := by decide +kernel
theorem dX8_state_106 : decode cX8_state 106 = .ok (.getfield 89, 3) := by decide +kernel
theorem dX8_state_109 : decode cX8_state 109 = .ok (.getfield 153, 3) := by decide +kernel
theorem dX8_state_112 : decode cX8_state 112 = .ok (.ireturn, 1) := by decide +kernel
theorem dX8_state_113 : decode cX8_state 113 = .ok (.aload_n 3, 1) := by decide +kernel
theorem dX8_state_114 : decode cX8_state 114 = .ok (.getfield 89, 3) := by decide +kernel
theorem dX8_state_117 : decode cX8_state 117 = .ok (.getfield 156, 3) := by decide +kernel
theorem dX8_state_120 : decode cX8_state 120 = .ok (.ireturn, 1) := by decide +kernel
theorem dX8_state_121 : decode cX8_state 121 = .ok (.aload_n 3, 1) := by decide +kernel
theorem dX8_state_122 : decode cX8_state 122 = .ok (.getfield 89, 3) := by decide +kernel
theorem dX8_state_125 : decode cX8_state 125 = .ok (.getfield 159, 3) := by decide +kernel
theorem dX8_state_128 : decode cX8_state 128 = .ok (.ireturn, 1) := by decide +kernel
theorem dX8_state_129 : decode cX8_state 129 = .ok (.aload_n 3, 1) := by decide +kernel
theorem dX8_state_130 : decode cX8_state 130 = .ok (.getfield 89, 3) := by decide +kernel
theorem dX8_state_133 : decode cX8_state 133 = .ok (.getfield 162, 3) := by decide +kernel
theorem dX8_state_136 : decode cX8_state 136 = .ok (.ireturn, 1) := by decide +kernel
theorem dX8_state_137 : decode cX8_state 137 = .ok (.aload_n 3, 1) := by decide +kernel
theorem dX8_state_138 : decode cX8_state 138 = .ok (.getfield 89, 3) := by decide +kernel
theorem dX8_state_141 : decode cX8_state 141 = .ok (.getfield 165, 3) := by decide +kernel
theorem dX8_state_144 : decode cX8_state 144 = .ok (.ireturn, 1) := by decide +kernel
theorem dX8_state_145 : decode cX8_state 145 = .ok (.aload_n 3, 1) := by decide +kernel
theorem dX8_state_146 : decode cX8_state 146 = .ok (.getfield 89, 3) := by decide +kernel
theorem dX8_state_149 : decode cX8_state 149 = .ok (.getfield 168, 3) := by decide +kernel
theorem dX8_state_152 : decode cX8_state 152 = .ok (.ireturn, 1) := by decide +kernel
theorem dX8_state_153 : decode cX8_state 153 = .ok (.aload_n 3, 1) := by decide +kernel
theorem dX8_state_154 : decode cX8_state 154 = .ok (.getfield 77, 3) := by decide +kernel
theorem dX8_state_157 : decode cX8_state 157 = .ok (.getfield 171, 3) := by decide +kernel
theorem dX8_state_160 : decode cX8_state 160 = .ok (.ireturn, 1) := by decide +kernel
theorem dX8_state_161 : decode cX8_state 161 = .ok (.aload_n 3, 1) := by decide +kernel
theorem dX8_state_162 : decode cX8_state 162 = .ok (.getfield 110, 3) := by decide +kernel
theorem dX8_state_165 : decode cX8_state 165 = .ok (.getfield 114, 3) := by decide +kernel
theorem dX8_state_168 : decode cX8_state 168 = .ok (.ireturn, 1) := by decide +kernel
theorem dX8_state_169 : decode cX8_state 169 = .ok (.aload_n 3, 1) := by decide +kernel
theorem dX8_state_170 : decode cX8_state 170 = .ok (.getfield 110, 3) := by decide +kernel
theorem dX8_state_173 : decode cX8_state 173 = .ok (.getfield 119, 3) := by decide +kernel
theorem dX8_state_176 : decode cX8_state 176 = .ok (.ireturn, 1) := by decide +kernel
theorem dX8_state_177 : decode cX8_state 177 = .ok (.aload_n 0, 1) := by decide +kernel
theorem dX8_state_178 : decode cX8_state 178 = .ok (.getfield 10, 3) := by decide +kernel
theorem dX8_state_181 : decode cX8_state 181 = .ok (.iload_n 1, 1) := by decide +kernel
theorem dX8_state_182 : decode cX8_state 182 = .ok (.invokevirtual 174, 3) := by decide +kernel
theorem dX8_state_185 : decode cX8_state 185 = .ok (.ireturn, 1) := by decide +kernel
theorem dX8_state_186 : decode cX8_state 186 = .ok (.ldc 44, 2) := by decide +kernel
theorem dX8_state_188 : decode cX8_state 188 = .ok (.ireturn, 1) := by decide +kernel
theorem dX8_errors_0 : decode cX8_errors 0 = .ok (.aload_n 0, 1) := by decide +kernel
theorem dX8_errors_1 : decode cX8_errors 1 = .ok (.getfield 10, 3) := by decide +kernel
theorem dX8_errors_4 : decode cX8_errors 4 = .ok (.iload_n 1, 1) := by decide +kernel
theorem dX8_errors_5 : decode cX8_errors 5 = .ok (.invokevirtual 177, 3) := by decide +kernel
theorem dX8_errors_8 : decode cX8_errors 8 = .ok (.astore 4, 2) := by decide +kernel
theorem dX8_errors_10 : decode cX8_errors 10 = .ok (.aload 4, 2) := by decide +kernel
theorem dX8_errors_12 : decode cX8_errors 12 = .ok (.ifnonnull 6, 3) := by decide +kernel
theorem dX8_errors_15 : decode cX8_errors 15 = .ok (.ldc 53, 2) := by decide +kernel
theorem dX8_errors_17 : decode cX8_errors 17 = .ok (.ireturn, 1) := by decide +kernel
theorem dX8_errors_18 : decode cX8_errors 18 = .ok (.iload_n 2, 1) := by decide +kernel
theorem dX8_errors_19 : decode cX8_errors 19 = .ok (.iconst 1, 1) := by decide +kernel
theorem dX8_errors_20 : decode cX8_errors 20 = .ok (.bipush 60, 2) := by decide +kernel
theorem dX8_errors_22 : decode cX8_errors 22 = .ok (.invokestatic 40, 3) := by decide +kernel
theorem dX8_errors_25 : decode cX8_errors 25 = .ok (.ifCond .eq 6, 3) := by decide +kernel
theorem dX8_errors_28 : decode cX8_errors 28 = .ok (.ldc 44, 2) := by decide +kernel
theorem dX8_errors_30 : decode cX8_errors 30 = .ok (.ireturn, 1) := by decide +kernel
theorem dX8_errors_31 : decode cX8_errors 31 = .ok (.aload 4, 2) := by decide +kernel
theorem dX8_errors_33 : decode cX8_errors 33 = .ok (.getfield 110, 3) := by decide +kernel
theorem dX8_errors_36 : decode cX8_errors 36 = .ok (.getfield 180, 3) := by decide +kernel
theorem dX8_errors_39 : decode cX8_errors 39 = .ok (.astore 5, 2) := by decide +kernel
theorem dX8_errors_41 : decode cX8_errors 41 = .ok (.iload_n 3, 1) := by decide +kernel
theorem dX8_errors_42 : decode cX8_errors 42 = .ok (.tableswitch 65 0 3 #[30, 37, 44, 51], 30) := by decide +kernel
theorem dX8_errors_72 : decode cX8_errors 72 = .ok (.aload 5, 2) := by decide +kernel
theorem dX8_errors_74 : decode cX8_errors 74 = .ok (.iload_n 2, 1) := by decide +kernel
theorem dX8_errors_75 : decode cX8_errors 75 = .ok (.invokevirtual 184, 3) := by decide +kernel
theorem dX8_errors_78 : decode cX8_errors 78 = .ok (.ireturn, 1) := by decide +kernel
theorem dX8_errors_79 : decode cX8_errors 79 = .ok (.aload 5, 2) := by decide +kernel
theorem dX8_errors_81 : decode cX8_errors 81 = .ok (.iload_n 2, 1) := by decide +kernel
theorem dX8_errors_82 : decode cX8_errors 82 = .ok (.invokevirtual 189, 3) := by decide +kernel
theorem dX8_errors_85 : decode cX8_errors 85 = .ok (.ireturn, 1) := by decide +kernel
theorem dX8_errors_86 : decode cX8_errors 86 = .ok (.aload 5, 2) := by decide +kernel
theorem dX8_errors_88 : decode cX8_errors 88 = .ok (.iload_n 2, 1) := by decide +kernel
theorem dX8_errors_89 : decode cX8_errors 89 = .ok (.invokevirtual 192, 3) := by decide +kernel
theorem dX8_errors_92 : decode cX8_errors 92 = .ok (.ireturn, 1) := by decide +kernel
theorem dX8_errors_93 : decode cX8_errors 93 = .ok (.aload 5, 2) := by decide +kernel
theorem dX8_errors_95 : decode cX8_errors 95 = .ok (.iload_n 2, 1) := by decide +kernel
theorem dX8_errors_96 : decode cX8_errors 96 = .ok (.aload 4, 2) := by decide +kernel
theorem dX8_errors_98 : decode cX8_errors 98 = .ok (.bipush 6, 2) := by decide +kernel
theorem dX8_errors_100 : decode cX8_errors 100 = .ok (.invokevirtual 63, 3) := by decide +kernel
theorem dX8_errors_103 : decode cX8_errors 103 = .ok (.invokevirtual 195, 3) := by decide +kernel
theorem dX8_errors_106 : decode cX8_errors 106 = .ok (.ireturn, 1) := by decide +kernel
theorem dX8_errors_107 : decode cX8_errors 107 = .ok (.ldc 44, 2) := by decide +kernel
theorem dX8_errors_109 : decode cX8_errors 109 = .ok (.ireturn, 1) := by decide +kernel
theorem dX8_total_0 : decode cX8_total 0 = .ok (.iload_n 1, 1) := by decide +kernel
theorem dX8_total_1 : decode cX8_total 1 = .ok (.iconst 0, 1) := by decide +kernel
theorem dX8_total_2 : decode cX8_total 2 = .ok (.iconst 5, 1) := by decide +kernel
theorem dX8_total_3 : decode cX8_total 3 = .ok (.invokestatic 40, 3) := by decide +kernel
theorem dX8_total_6 : decode cX8_total 6 = .ok (.ifCond .eq 6, 3) := by decide +kernel
theorem dX8_total_9 : decode cX8_total 9 = .ok (.ldc 44, 2) := by decide +kernel
theorem dX8_total_11 : decode cX8_total 11 = .ok (.ireturn, 1) := by decide +kernel
theorem dX8_total_12 : decode cX8_total 12 = .ok (.aload_n 0, 1) := by decide +kernel
theorem dX8_total_13 : decode cX8_total 13 = .ok (.getfield 10, 3) := by decide +kernel
theorem dX8_total_16 : decode cX8_total 16 = .ok (.getfield 199, 3) := by decide +kernel
theorem dX8_total_19 : decode cX8_total 19 = .ok (.iload_n 1, 1) := by decide +kernel
theorem dX8_total_20 : decode cX8_total 20 = .ok (.iaload, 1) := by decide +kernel
theorem dX8_total_21 : decode cX8_total 21 = .ok (.ireturn, 1) := by decide +kernel
theorem dX8_count_0 : decode cX8_count 0 = .ok (.iload_n 1, 1) := by decide +kernel
theorem dX8_count_1 : decode cX8_count 1 = .ok (.tableswitch 75 0 4 #[35, 43, 51, 59, 67], 35) := by decide +kernel
theorem dX8_count_36 : decode cX8_count 36 = .ok (.aload_n 0, 1) := by decide +kernel
theorem dX8_count_37 : decode cX8_count 37 = .ok (.getfield 10, 3) := by decide +kernel
theorem dX8_count_40 : decode cX8_count 40 = .ok (.getfield 45, 3) := by decide +kernel
theorem dX8_count_43 : decode cX8_count 43 = .ok (.ireturn, 1) := by decide +kernel
theorem dX8_count_44 : decode cX8_count 44 = .ok (.aload_n 0, 1) := by decide +kernel
theorem dX8_count_45 : decode cX8_count 45 = .ok (.getfield 10, 3) := by decide +kernel
theorem dX8_count_48 : decode cX8_count 48 = .ok (.getfield 240, 3) := by decide +kernel
theorem dX8_count_51 : decode cX8_count 51 = .ok (.ireturn, 1) := by decide +kernel
theorem dX8_count_52 : decode cX8_count 52 = .ok (.aload_n 0, 1) := by decide +kernel
theorem dX8_count_53 : decode cX8_count 53 = .ok (.getfield 10, 3) := by decide +kernel
theorem dX8_count_56 : decode cX8_count 56 = .ok (.getfield 101, 3) := by decide +kernel
theorem dX8_count_59 : decode cX8_count 59 = .ok (.ireturn, 1) := by decide +kernel
theorem dX8_count_60 : decode cX8_count 60 = .ok (.aload_n 0, 1) := by decide +kernel
theorem dX8_count_61 : decode cX8_count 61 = .ok (.getfield 10, 3) := by decide +kernel
theorem dX8_count_64 : decode cX8_count 64 = .ok (.invokevirtual 128, 3) := by decide +kernel
theorem dX8_count_67 : decode cX8_count 67 = .ok (.ireturn, 1) := by decide +kernel
theorem dX8_count_68 : decode cX8_count 68 = .ok (.aload_n 0, 1) := by decide +kernel
theorem dX8_count_69 : decode cX8_count 69 = .ok (.getfield 32, 3) := by decide +kernel
theorem dX8_count_72 : decode cX8_count 72 = .ok (.getfield 217, 3) := by decide +kernel
theorem dX8_count_75 : decode cX8_count 75 = .ok (.ireturn, 1) := by decide +kernel
theorem dX8_count_76 : decode cX8_count 76 = .ok (.ldc 44, 2) := by decide +kernel
theorem dX8_count_78 : decode cX8_count 78 = .ok (.ireturn, 1) := by decide +kernel
theorem dX8_isOutside_0 : decode cX8_isOutside 0 = .ok (.iload_n 0, 1) := by decide +kernel
theorem dX8_isOutside_1 : decode cX8_isOutside 1 = .ok (.iload_n 1, 1) := by decide +kernel
theorem dX8_isOutside_2 : decode cX8_isOutside 2 = .ok (.if_icmp .lt 8, 3) := by decide +kernel
theorem dX8_isOutside_5 : decode cX8_isOutside 5 = .ok (.iload_n 0, 1) := by decide +kernel
theorem dX8_isOutside_6 : decode cX8_isOutside 6 = .ok (.iload_n 2, 1) := by decide +kernel
theorem dX8_isOutside_7 : decode cX8_isOutside 7 = .ok (.if_icmp .le 7, 3) := by decide +kernel
theorem dX8_isOutside_10 : decode cX8_isOutside 10 = .ok (.iconst 1, 1) := by decide +kernel
theorem dX8_isOutside_11 : decode cX8_isOutside 11 = .ok (.goto 4, 3) := by decide +kernel
theorem dX8_isOutside_14 : decode cX8_isOutside 14 = .ok (.iconst 0, 1) := by decide +kernel
theorem dX8_isOutside_15 : decode cX8_isOutside 15 = .ok (.ireturn, 1) := by decide +kernel
theorem dX8_isSettingValue_0 : decode cX8_isSettingValue 0 = .ok (.iload_n 0, 1) := by decide +kernel
theorem dX8_isSettingValue_1 : decode cX8_isSettingValue 1 = .ok (.ifCond .lt 9, 3) := by decide +kernel
theorem dX8_isSettingValue_4 : decode cX8_isSettingValue 4 = .ok (.iload_n 0, 1) := by decide +kernel
theorem dX8_isSettingValue_5 : decode cX8_isSettingValue 5 = .ok (.bipush 11, 2) := by decide +kernel
theorem dX8_isSettingValue_7 : decode cX8_isSettingValue 7 = .ok (.if_icmp .lt 5, 3) := by decide +kernel
theorem dX8_isSettingValue_10 : decode cX8_isSettingValue 10 = .ok (.iconst 0, 1) := by decide +kernel
theorem dX8_isSettingValue_11 : decode cX8_isSettingValue 11 = .ok (.ireturn, 1) := by decide +kernel
theorem dX8_isSettingValue_12 : decode cX8_isSettingValue 12 = .ok (.iload_n 1, 1) := by decide +kernel
theorem dX8_isSettingValue_13 : decode cX8_isSettingValue 13 = .ok (.getstatic 280, 3) := by decide +kernel
theorem dX8_isSettingValue_16 : decode cX8_isSettingValue 16 = .ok (.iload_n 0, 1) := by decide +kernel
theorem dX8_isSettingValue_17 : decode cX8_isSettingValue 17 = .ok (.iaload, 1) := by decide +kernel
theorem dX8_isSettingValue_18 : decode cX8_isSettingValue 18 = .ok (.getstatic 283, 3) := by decide +kernel
theorem dX8_isSettingValue_21 : decode cX8_isSettingValue 21 = .ok (.iload_n 0, 1) := by decide +kernel
theorem dX8_isSettingValue_22 : decode cX8_isSettingValue 22 = .ok (.iaload, 1) := by decide +kernel
theorem dX8_isSettingValue_23 : decode cX8_isSettingValue 23 = .ok (.invokestatic 40, 3) := by decide +kernel
theorem dX8_isSettingValue_26 : decode cX8_isSettingValue 26 = .ok (.ifCond .ne 7, 3) := by decide +kernel
theorem dX8_isSettingValue_29 : decode cX8_isSettingValue 29 = .ok (.iconst 1, 1) := by decide +kernel
theorem dX8_isSettingValue_30 : decode cX8_isSettingValue 30 = .ok (.goto 4, 3) := by decide +kernel
theorem dX8_isSettingValue_33 : decode cX8_isSettingValue 33 = .ok (.iconst 0, 1) := by decide +kernel
theorem dX8_isSettingValue_34 : decode cX8_isSettingValue 34 = .ok (.ireturn, 1) := by decide +kernel
theorem dX8_isPlace_0 : decode cX8_isPlace 0 = .ok (.iload_n 0, 1) := by decide +kernel
theorem dX8_isPlace_1 : decode cX8_isPlace 1 = .ok (.ifCond .eq 8, 3) := by decide +kernel
theorem dX8_isPlace_4 : decode cX8_isPlace 4 = .ok (.iload_n 0, 1) := by decide +kernel
theorem dX8_isPlace_5 : decode cX8_isPlace 5 = .ok (.iconst 1, 1) := by decide +kernel
theorem dX8_isPlace_6 : decode cX8_isPlace 6 = .ok (.if_icmp .ne 7, 3) := by decide +kernel
theorem dX8_isPlace_9 : decode cX8_isPlace 9 = .ok (.iconst 1, 1) := by decide +kernel
theorem dX8_isPlace_10 : decode cX8_isPlace 10 = .ok (.goto 4, 3) := by decide +kernel
theorem dX8_isPlace_13 : decode cX8_isPlace 13 = .ok (.iconst 0, 1) := by decide +kernel
theorem dX8_isPlace_14 : decode cX8_isPlace 14 = .ok (.ireturn, 1) := by decide +kernel
theorem dX8_isDisturbance_0 : decode cX8_isDisturbance 0 = .ok (.iload_n 0, 1) := by decide +kernel
theorem dX8_isDisturbance_1 : decode cX8_isDisturbance 1 = .ok (.sipush (-3000), 3) := by decide +kernel
theorem dX8_isDisturbance_4 : decode cX8_isDisturbance 4 = .ok (.sipush 3000, 3) := by decide +kernel
theorem dX8_isDisturbance_7 : decode cX8_isDisturbance 7 = .ok (.invokestatic 40, 3) := by decide +kernel
theorem dX8_isDisturbance_10 : decode cX8_isDisturbance 10 = .ok (.ifCond .ne 17, 3) := by decide +kernel
theorem dX8_isDisturbance_13 : decode cX8_isDisturbance 13 = .ok (.iload_n 1, 1) := by decide +kernel
theorem dX8_isDisturbance_14 : decode cX8_isDisturbance 14 = .ok (.iconst 1, 1) := by decide +kernel
theorem dX8_isDisturbance_15 : decode cX8_isDisturbance 15 = .ok (.bipush 50, 2) := by decide +kernel
theorem dX8_isDisturbance_17 : decode cX8_isDisturbance 17 = .ok (.invokestatic 40, 3) := by decide +kernel
theorem dX8_isDisturbance_20 : decode cX8_isDisturbance 20 = .ok (.ifCond .ne 7, 3) := by decide +kernel
theorem dX8_isDisturbance_23 : decode cX8_isDisturbance 23 = .ok (.iconst 1, 1) := by decide +kernel
theorem dX8_isDisturbance_24 : decode cX8_isDisturbance 24 = .ok (.goto 4, 3) := by decide +kernel
theorem dX8_isDisturbance_27 : decode cX8_isDisturbance 27 = .ok (.iconst 0, 1) := by decide +kernel
theorem dX8_isDisturbance_28 : decode cX8_isDisturbance 28 = .ok (.ireturn, 1) := by decide +kernel
theorem dX8_limited_0 : decode cX8_limited 0 = .ok (.iload_n 0, 1) := by decide +kernel
theorem dX8_limited_1 : decode cX8_limited 1 = .ok (.iload_n 1, 1) := by decide +kernel
theorem dX8_limited_2 : decode cX8_limited 2 = .ok (.if_icmp .le 5, 3) := by decide +kernel
theorem dX8_limited_5 : decode cX8_limited 5 = .ok (.iload_n 1, 1) := by decide +kernel
theorem dX8_limited_6 : decode cX8_limited 6 = .ok (.ireturn, 1) := by decide +kernel
theorem dX8_limited_7 : decode cX8_limited 7 = .ok (.iload_n 0, 1) := by decide +kernel
theorem dX8_limited_8 : decode cX8_limited 8 = .ok (.iload_n 1, 1) := by decide +kernel
theorem dX8_limited_9 : decode cX8_limited 9 = .ok (.ineg, 1) := by decide +kernel
theorem dX8_limited_10 : decode cX8_limited 10 = .ok (.if_icmp .ge 8, 3) := by decide +kernel
theorem dX8_limited_13 : decode cX8_limited 13 = .ok (.iload_n 1, 1) := by decide +kernel
theorem dX8_limited_14 : decode cX8_limited 14 = .ok (.ineg, 1) := by decide +kernel
theorem dX8_limited_15 : decode cX8_limited 15 = .ok (.goto 4, 3) := by decide +kernel
theorem dX8_limited_18 : decode cX8_limited 18 = .ok (.iload_n 0, 1) := by decide +kernel
theorem dX8_limited_19 : decode cX8_limited 19 = .ok (.ireturn, 1) := by decide +kernel
theorem dX8_lessOne_0 : decode cX8_lessOne 0 = .ok (.iload_n 0, 1) := by decide +kernel
theorem dX8_lessOne_1 : decode cX8_lessOne 1 = .ok (.ifCond .le 9, 3) := by decide +kernel
theorem dX8_lessOne_4 : decode cX8_lessOne 4 = .ok (.iload_n 0, 1) := by decide +kernel
theorem dX8_lessOne_5 : decode cX8_lessOne 5 = .ok (.iconst 1, 1) := by decide +kernel
theorem dX8_lessOne_6 : decode cX8_lessOne 6 = .ok (.isub, 1) := by decide +kernel
theorem dX8_lessOne_7 : decode cX8_lessOne 7 = .ok (.goto 4, 3) := by decide +kernel
theorem dX8_lessOne_10 : decode cX8_lessOne 10 = .ok (.iconst 0, 1) := by decide +kernel
theorem dX8_lessOne_11 : decode cX8_lessOne 11 = .ok (.ireturn, 1) := by decide +kernel
theorem dJ9_abs_0f7a4_0 : decode cJ9_abs_0f7a4 0 = .ok (.iload_n 0, 1) := by decide +kernel
theorem dJ9_abs_0f7a4_1 : decode cJ9_abs_0f7a4 1 = .ok (.ifCond .ge 8, 3) := by decide +kernel
theorem dJ9_abs_0f7a4_4 : decode cJ9_abs_0f7a4 4 = .ok (.iload_n 0, 1) := by decide +kernel
theorem dJ9_abs_0f7a4_5 : decode cJ9_abs_0f7a4 5 = .ok (.ineg, 1) := by decide +kernel
theorem dJ9_abs_0f7a4_6 : decode cJ9_abs_0f7a4 6 = .ok (.goto 4, 3) := by decide +kernel
theorem dJ9_abs_0f7a4_9 : decode cJ9_abs_0f7a4 9 = .ok (.iload_n 0, 1) := by decide +kernel
theorem dJ9_abs_0f7a4_10 : decode cJ9_abs_0f7a4 10 = .ok (.ireturn, 1) := by decide +kernel
theorem dJ9_max_7cf53_0 : decode cJ9_max_7cf53 0 = .ok (.iload_n 0, 1) := by decide +kernel
theorem dJ9_max_7cf53_1 : decode cJ9_max_7cf53 1 = .ok (.iload_n 1, 1) := by decide +kernel
theorem dJ9_max_7cf53_2 : decode cJ9_max_7cf53 2 = .ok (.if_icmp .lt 7, 3) := by decide +kernel
theorem dJ9_max_7cf53_5 : decode cJ9_max_7cf53 5 = .ok (.iload_n 0, 1) := by decide +kernel
theorem dJ9_max_7cf53_6 : decode cJ9_max_7cf53 6 = .ok (.goto 4, 3) := by decide +kernel
theorem dJ9_max_7cf53_9 : decode cJ9_max_7cf53 9 = .ok (.iload_n 1, 1) := by decide +kernel
theorem dJ9_max_7cf53_10 : decode cJ9_max_7cf53 10 = .ok (.ireturn, 1) := by decide +kernel
theorem dJ9_min_7cf53_0 : decode cJ9_min_7cf53 0 = .ok (.iload_n 0, 1) := by decide +kernel
theorem dJ9_min_7cf53_1 : decode cJ9_min_7cf53 1 = .ok (.iload_n 1, 1) := by decide +kernel
theorem dJ9_min_7cf53_2 : decode cJ9_min_7cf53 2 = .ok (.if_icmp .gt 7, 3) := by decide +kernel
theorem dJ9_min_7cf53_5 : decode cJ9_min_7cf53 5 = .ok (.iload_n 0, 1) := by decide +kernel
theorem dJ9_min_7cf53_6 : decode cJ9_min_7cf53 6 = .ok (.goto 4, 3) := by decide +kernel
theorem dJ9_min_7cf53_9 : decode cJ9_min_7cf53 9 = .ok (.iload_n 1, 1) := by decide +kernel
theorem dJ9_min_7cf53_10 : decode cJ9_min_7cf53 10 = .ok (.ireturn, 1) := by decide +kernel
