theorem dX9_init_0 : decode cX9_init 0 = .ok (.aload_n 0, 1) := by decide +kernel
theorem dX9_init_1 : decode cX9_init 1 = .ok (.invokespecial 3, 3) := by decide +kernel
theorem dX9_init_4 : decode cX9_init 4 = .ok (.aload_n 0, 1) := by decide +kernel
theorem dX9_init_5 : decode cX9_init 5 = .ok (.sipush 1906, 3) := by decide +kernel
theorem dX9_init_8 : decode cX9_init 8 = .ok (.newarray .int, 2) := by decide +kernel
theorem dX9_init_10 : decode cX9_init 10 = .ok (.putfield 9, 3) := by decide +kernel
theorem dX9_init_13 : decode cX9_init 13 = .ok (.aload_n 0, 1) := by decide +kernel
theorem dX9_init_14 : decode cX9_init 14 = .ok (.sipush 1906, 3) := by decide +kernel
theorem dX9_init_17 : decode cX9_init 17 = .ok (.newarray .int, 2) := by decide +kernel
theorem dX9_init_19 : decode cX9_init 19 = .ok (.putfield 13, 3) := by decide +kernel
theorem dX9_init_22 : decode cX9_init 22 = .ok (.aload_n 0, 1) := by decide +kernel
theorem dX9_init_23 : decode cX9_init 23 = .ok (.sipush 3812, 3) := by decide +kernel
theorem dX9_init_26 : decode cX9_init 26 = .ok (.newarray .int, 2) := by decide +kernel
theorem dX9_init_28 : decode cX9_init 28 = .ok (.putfield 16, 3) := by decide +kernel
theorem dX9_init_31 : decode cX9_init 31 = .ok (.aload_n 0, 1) := by decide +kernel
theorem dX9_init_32 : decode cX9_init 32 = .ok (.iconst 2, 1) := by decide +kernel
theorem dX9_init_33 : decode cX9_init 33 = .ok (.newarray .boolean, 2) := by decide +kernel
theorem dX9_init_35 : decode cX9_init 35 = .ok (.putfield 19, 3) := by decide +kernel
theorem dX9_init_38 : decode cX9_init 38 = .ok (.aload_n 0, 1) := by decide +kernel
theorem dX9_init_39 : decode cX9_init 39 = .ok (.bipush 80, 2) := by decide +kernel
theorem dX9_init_41 : decode cX9_init 41 = .ok (.newarray .int, 2) := by decide +kernel
theorem dX9_init_43 : decode cX9_init 43 = .ok (.putfield 23, 3) := by decide +kernel
theorem dX9_init_46 : decode cX9_init 46 = .ok (.aload_n 0, 1) := by decide +kernel
theorem dX9_init_47 : decode cX9_init 47 = .ok (.sipush 164, 3) := by decide +kernel
theorem dX9_init_50 : decode cX9_init 50 = .ok (.newarray .int, 2) := by decide +kernel
theorem dX9_init_52 : decode cX9_init 52 = .ok (.putfield 26, 3) := by decide +kernel
theorem dX9_init_55 : decode cX9_init 55 = .ok (.aload_n 0, 1) := by decide +kernel
theorem dX9_init_56 : decode cX9_init 56 = .ok (.iconst 3, 1) := by decide +kernel
theorem dX9_init_57 : decode cX9_init 57 = .ok (.invokevirtual 29, 3) := by decide +kernel
theorem dX9_init_60 : decode cX9_init 60 = .ok (.return_, 1) := by decide +kernel
theorem dX9_in_0 : decode cX9_in 0 = .ok (.iload_n 0, 1) := by decide +kernel
theorem dX9_in_1 : decode cX9_in 1 = .ok (.iload_n 1, 1) := by decide +kernel
theorem dX9_in_2 : decode cX9_in 2 = .ok (.if_icmp .lt 12, 3) := by decide +kernel
theorem dX9_in_5 : decode cX9_in 5 = .ok (.iload_n 0, 1) := by decide +kernel
theorem dX9_in_6 : decode cX9_in 6 = .ok (.iload_n 2, 1) := by decide +kernel
theorem dX9_in_7 : decode cX9_in 7 = .ok (.if_icmp .gt 7, 3) := by decide +kernel
theorem dX9_in_10 : decode cX9_in 10 = .ok (.iconst 1, 1) := by decide +kernel
theorem dX9_in_11 : decode cX9_in 11 = .ok (.goto 4, 3) := by decide +kernel
theorem dX9_in_14 : decode cX9_in 14 = .ok (.iconst 0, 1) := by decide +kernel
theorem dX9_in_15 : decode cX9_in 15 = .ok (.ireturn, 1) := by decide +kernel
theorem dX9_size_0 : decode cX9_size 0 = .ok (.iload_n 0, 1) := by decide +kernel
theorem dX9_size_1 : decode cX9_size 1 = .ok (.ifCond .ge 8, 3) := by decide +kernel
theorem dX9_size_4 : decode cX9_size 4 = .ok (.iload_n 0, 1) := by decide +kernel
theorem dX9_size_5 : decode cX9_size 5 = .ok (.ineg, 1) := by decide +kernel
theorem dX9_size_6 : decode cX9_size 6 = .ok (.goto 4, 3) := by decide +kernel
theorem dX9_size_9 : decode cX9_size 9 = .ok (.iload_n 0, 1) := by decide +kernel
theorem dX9_size_10 : decode cX9_size 10 = .ok (.ireturn, 1) := by decide +kernel
theorem dX9_limited_0 : decode cX9_limited 0 = .ok (.iload_n 0, 1) := by decide +kernel
theorem dX9_limited_1 : decode cX9_limited 1 = .ok (.iload_n 1, 1) := by decide +kernel
theorem dX9_limited_2 : decode cX9_limited 2 = .ok (.if_icmp .le 7, 3) := by decide +kernel
theorem dX9_limited_5 : decode cX9_limited 5 = .ok (.iload_n 1, 1) := by decide +kernel
theorem dX9_limited_6 : decode cX9_limited 6 = .ok (.goto 15, 3) := by decide +kernel
theorem dX9_limited_9 : decode cX9_limited 9 = .ok (.iload_n 0, 1) := by decide +kernel
theorem dX9_limited_10 : decode cX9_limited 10 = .ok (.iload_n 1, 1) := by decide +kernel
theorem dX9_limited_11 : decode cX9_limited 11 = .ok (.ineg, 1) := by decide +kernel
theorem dX9_limited_12 : decode cX9_limited 12 = .ok (.if_icmp .ge 8, 3) := by decide +kernel
theorem dX9_limited_15 : decode cX9_limited 15 = .ok (.iload_n 1, 1) := by decide +kernel
theorem dX9_limited_16 : decode cX9_limited 16 = .ok (.ineg, 1) := by decide +kernel
theorem dX9_limited_17 : decode cX9_limited 17 = .ok (.goto 4, 3) := by decide +kernel
theorem dX9_limited_20 : decode cX9_limited 20 = .ok (.iload_n 0, 1) := by decide +kernel
theorem dX9_limited_21 : decode cX9_limited 21 = .ok (.ireturn, 1) := by decide +kernel
theorem dX9_firstValue_0 : decode cX9_firstValue 0 = .ok (.iload_n 0, 1) := by decide +kernel
theorem dX9_firstValue_1 : decode cX9_firstValue 1 = .ok (.tableswitch 82 0 9 #[55, 57, 59, 63, 65, 69, 55, 72, 76, 79], 55) := by decide +kernel
theorem dX9_firstValue_56 : decode cX9_firstValue 56 = .ok (.iconst 5, 1) := by decide +kernel
theorem dX9_firstValue_57 : decode cX9_firstValue 57 = .ok (.ireturn, 1) := by decide +kernel
theorem dX9_firstValue_58 : decode cX9_firstValue 58 = .ok (.iconst 3, 1) := by decide +kernel
theorem dX9_firstValue_59 : decode cX9_firstValue 59 = .ok (.ireturn, 1) := by decide +kernel
theorem dX9_firstValue_60 : decode cX9_firstValue 60 = .ok (.sipush 200, 3) := by decide +kernel
theorem dX9_firstValue_63 : decode cX9_firstValue 63 = .ok (.ireturn, 1) := by decide +kernel
theorem dX9_firstValue_64 : decode cX9_firstValue 64 = .ok (.iconst 4, 1) := by decide +kernel
theorem dX9_firstValue_65 : decode cX9_firstValue 65 = .ok (.ireturn, 1) := by decide +kernel
theorem dX9_firstValue_66 : decode cX9_firstValue 66 = .ok (.sipush 128, 3) := by decide +kernel
theorem dX9_firstValue_69 : decode cX9_firstValue 69 = .ok (.ireturn, 1) := by decide +kernel
theorem dX9_firstValue_70 : decode cX9_firstValue 70 = .ok (.bipush 16, 2) := by decide +kernel
theorem dX9_firstValue_72 : decode cX9_firstValue 72 = .ok (.ireturn, 1) := by decide +kernel
theorem dX9_firstValue_73 : decode cX9_firstValue 73 = .ok (.sipush 300, 3) := by decide +kernel
theorem dX9_firstValue_76 : decode cX9_firstValue 76 = .ok (.ireturn, 1) := by decide +kernel
theorem dX9_firstValue_77 : decode cX9_firstValue 77 = .ok (.bipush 64, 2) := by decide +kernel
theorem dX9_firstValue_79 : decode cX9_firstValue 79 = .ok (.ireturn, 1) := by decide +kernel
theorem dX9_firstValue_80 : decode cX9_firstValue 80 = .ok (.bipush 8, 2) := by decide +kernel
theorem dX9_firstValue_82 : decode cX9_firstValue 82 = .ok (.ireturn, 1) := by decide +kernel
theorem dX9_firstValue_83 : decode cX9_firstValue 83 = .ok (.iconst 0, 1) := by decide +kernel
theorem dX9_firstValue_84 : decode cX9_firstValue 84 = .ok (.ireturn, 1) := by decide +kernel
theorem dX9_place_0 : decode cX9_place 0 = .ok (.sipush 353, 3) := by decide +kernel
theorem dX9_place_3 : decode cX9_place 3 = .ok (.iload_n 0, 1) := by decide +kernel
theorem dX9_place_4 : decode cX9_place 4 = .ok (.imul, 1) := by decide +kernel
theorem dX9_place_5 : decode cX9_place 5 = .ok (.iload_n 1, 1) := by decide +kernel
theorem dX9_place_6 : decode cX9_place 6 = .ok (.iadd, 1) := by decide +kernel
theorem dX9_place_7 : decode cX9_place 7 = .ok (.ireturn, 1) := by decide +kernel
theorem dX9_of_0 : decode cX9_of 0 = .ok (.aload_n 0, 1) := by decide +kernel
theorem dX9_of_1 : decode cX9_of 1 = .ok (.getfield 9, 3) := by decide +kernel
theorem dX9_of_4 : decode cX9_of 4 = .ok (.iload_n 1, 1) := by decide +kernel
theorem dX9_of_5 : decode cX9_of 5 = .ok (.iload_n 2, 1) := by decide +kernel
theorem dX9_of_6 : decode cX9_of 6 = .ok (.invokestatic 33, 3) := by decide +kernel
theorem dX9_of_9 : decode cX9_of 9 = .ok (.iaload, 1) := by decide +kernel
theorem dX9_of_10 : decode cX9_of 10 = .ok (.ireturn, 1) := by decide +kernel
theorem dX9_lay_0 : decode cX9_lay 0 = .ok (.aload_n 0, 1) := by decide +kernel
theorem dX9_lay_1 : decode cX9_lay 1 = .ok (.getfield 9, 3) := by decide +kernel
theorem dX9_lay_4 : decode cX9_lay 4 = .ok (.iload_n 1, 1) := by decide +kernel
theorem dX9_lay_5 : decode cX9_lay 5 = .ok (.iload_n 2, 1) := by decide +kernel
theorem dX9_lay_6 : decode cX9_lay 6 = .ok (.invokestatic 33, 3) := by decide +kernel
theorem dX9_lay_9 : decode cX9_lay 9 = .ok (.iload_n 3, 1) := by decide +kernel
theorem dX9_lay_10 : decode cX9_lay 10 = .ok (.iastore, 1) := by decide +kernel
theorem dX9_lay_11 : decode cX9_lay 11 = .ok (.return_, 1) := by decide +kernel
theorem dX9_layAll_0 : decode cX9_layAll 0 = .ok (.iconst 0, 1) := by decide +kernel
theorem dX9_layAll_1 : decode cX9_layAll 1 = .ok (.istore_n 2, 1) := by decide +kernel
theorem dX9_layAll_2 : decode cX9_layAll 2 = .ok (.iload_n 2, 1) := by decide +kernel
theorem dX9_layAll_3 : decode cX9_layAll 3 = .ok (.sipush 1906, 3) := by decide +kernel
theorem dX9_layAll_6 : decode cX9_layAll 6 = .ok (.if_icmp .ge 16, 3) := by decide +kernel
theorem dX9_layAll_9 : decode cX9_layAll 9 = .ok (.aload_n 0, 1) := by decide +kernel
theorem dX9_layAll_10 : decode cX9_layAll 10 = .ok (.getfield 9, 3) := by decide +kernel
theorem dX9_layAll_13 : decode cX9_layAll 13 = .ok (.iload_n 2, 1) := by decide +kernel
theorem dX9_layAll_14 : decode cX9_layAll 14 = .ok (.iconst 0, 1) := by decide +kernel
theorem dX9_layAll_15 : decode cX9_layAll 15 = .ok (.iastore, 1) := by decide +kernel
theorem dX9_layAll_16 : decode cX9_layAll 16 = .ok (.iinc 2 1, 3) := by decide +kernel
theorem dX9_layAll_19 : decode cX9_layAll 19 = .ok (.goto (-17), 3) := by decide +kernel
theorem dX9_layAll_22 : decode cX9_layAll 22 = .ok (.aload_n 0, 1) := by decide +kernel
theorem dX9_layAll_23 : decode cX9_layAll 23 = .ok (.getfield 9, 3) := by decide +kernel
theorem dX9_layAll_26 : decode cX9_layAll 26 = .ok (.sipush 1766, 3) := by decide +kernel
theorem dX9_layAll_29 : decode cX9_layAll 29 = .ok (.iload_n 1, 1) := by decide +kernel
theorem dX9_layAll_30 : decode cX9_layAll 30 = .ok (.iastore, 1) := by decide +kernel
theorem dX9_layAll_31 : decode cX9_layAll 31 = .ok (.iconst 0, 1) := by decide +kernel
theorem dX9_layAll_32 : decode cX9_layAll 32 = .ok (.istore_n 2, 1) := by decide +kernel
theorem dX9_layAll_33 : decode cX9_layAll 33 = .ok (.iload_n 2, 1) := by decide +kernel
theorem dX9_layAll_34 : decode cX9_layAll 34 = .ok (.iconst 5, 1) := by decide +kernel
theorem dX9_layAll_35 : decode cX9_layAll 35 = .ok (.if_icmp .ge 33, 3) := by decide +kernel
theorem dX9_layAll_38 : decode cX9_layAll 38 = .ok (.iconst 0, 1) := by decide +kernel
theorem dX9_layAll_39 : decode cX9_layAll 39 = .ok (.istore_n 3, 1) := by decide +kernel
theorem dX9_layAll_40 : decode cX9_layAll 40 = .ok (.iload_n 3, 1) := by decide +kernel
theorem dX9_layAll_41 : decode cX9_layAll 41 = .ok (.bipush 11, 2) := by decide +kernel
theorem dX9_layAll_43 : decode cX9_layAll 43 = .ok (.if_icmp .ge 19, 3) := by decide +kernel
theorem dX9_layAll_46 : decode cX9_layAll 46 = .ok (.aload_n 0, 1) := by decide +kernel
theorem dX9_layAll_47 : decode cX9_layAll 47 = .ok (.iload_n 2, 1) := by decide +kernel
theorem dX9_layAll_48 : decode cX9_layAll 48 = .ok (.iload_n 3, 1) := by decide +kernel
theorem dX9_layAll_49 : decode cX9_layAll 49 = .ok (.iload_n 3, 1) := by decide +kernel
theorem dX9_layAll_50 : decode cX9_layAll 50 = .ok (.invokestatic 37, 3) := by decide +kernel
theorem dX9_layAll_53 : decode cX9_layAll 53 = .ok (.invokevirtual 41, 3) := by decide +kernel
theorem dX9_layAll_56 : decode cX9_layAll 56 = .ok (.iinc 3 1, 3) := by decide +kernel
theorem dX9_layAll_59 : decode cX9_layAll 59 = .ok (.goto (-19), 3) := by decide +kernel
theorem dX9_layAll_62 : decode cX9_layAll 62 = .ok (.iinc 2 1, 3) := by decide +kernel
theorem dX9_layAll_65 : decode cX9_layAll 65 = .ok (.goto (-32), 3) := by decide +kernel
theorem dX9_layAll_68 : decode cX9_layAll 68 = .ok (.return_, 1) := by decide +kernel
theorem dX9_putAside_0 : decode cX9_putAside 0 = .ok (.iconst 0, 1) := by decide +kernel
theorem dX9_putAside_1 : decode cX9_putAside 1 = .ok (.istore_n 1, 1) := by decide +kernel
theorem dX9_putAside_2 : decode cX9_putAside 2 = .ok (.iload_n 1, 1) := by decide +kernel
theorem dX9_putAside_3 : decode cX9_putAside 3 = .ok (.sipush 1906, 3) := by decide +kernel
theorem dX9_putAside_6 : decode cX9_putAside 6 = .ok (.if_icmp .ge 21, 3) := by decide +kernel
theorem dX9_putAside_9 : decode cX9_putAside 9 = .ok (.aload_n 0, 1) := by decide +kernel
theorem dX9_putAside_10 : decode cX9_putAside 10 = .ok (.getfield 13, 3) := by decide +kernel
theorem dX9_putAside_13 : decode cX9_putAside 13 = .ok (.iload_n 1, 1) := by decide +kernel
theorem dX9_putAside_14 : decode cX9_putAside 14 = .ok (.aload_n 0, 1) := by decide +kernel
theorem dX9_putAside_15 : decode cX9_putAside 15 = .ok (.getfield 9, 3) := by decide +kernel
theorem dX9_putAside_18 : decode cX9_putAside 18 = .ok (.iload_n 1, 1) := by decide +kernel
theorem dX9_putAside_19 : decode cX9_putAside 19 = .ok (.iaload, 1) := by decide +kernel
theorem dX9_putAside_20 : decode cX9_putAside 20 = .ok (.iastore, 1) := by decide +kernel
theorem dX9_putAside_21 : decode cX9_putAside 21 = .ok (.iinc 1 1, 3) := by decide +kernel
theorem dX9_putAside_24 : decode cX9_putAside 24 = .ok (.goto (-22), 3) := by decide +kernel
theorem dX9_putAside_27 : decode cX9_putAside 27 = .ok (.return_, 1) := by decide +kernel
theorem dX9_putBack_0 : decode cX9_putBack 0 = .ok (.iconst 0, 1) := by decide +kernel
theorem dX9_putBack_1 : decode cX9_putBack 1 = .ok (.istore_n 1, 1) := by decide +kernel
theorem dX9_putBack_2 : decode cX9_putBack 2 = .ok (.iload_n 1, 1) := by decide +kernel
theorem dX9_putBack_3 : decode cX9_putBack 3 = .ok (.sipush 1906, 3) := by decide +kernel
theorem dX9_putBack_6 : decode cX9_putBack 6 = .ok (.if_icmp .ge 21, 3) := by decide +kernel
theorem dX9_putBack_9 : decode cX9_putBack 9 = .ok (.aload_n 0, 1) := by decide +kernel
theorem dX9_putBack_10 : decode cX9_putBack 10 = .ok (.getfield 9, 3) := by decide +kernel
theorem dX9_putBack_13 : decode cX9_putBack 13 = .ok (.iload_n 1, 1) := by decide +kernel
theorem dX9_putBack_14 : decode cX9_putBack 14 = .ok (.aload_n 0, 1) := by decide +kernel
theorem dX9_putBack_15 : decode cX9_putBack 15 = .ok (.getfield 13, 3) := by decide +kernel
theorem dX9_putBack_18 : decode cX9_putBack 18 = .ok (.iload_n 1, 1) := by decide +kernel
theorem dX9_putBack_19 : decode cX9_putBack 19 = .ok (.iaload, 1) := by decide +kernel
theorem dX9_putBack_20 : decode cX9_putBack 20 = .ok (.iastore, 1) := by decide +kernel
theorem dX9_putBack_21 : decode cX9_putBack 21 = .ok (.iinc 1 1, 3) := by decide +kernel
theorem dX9_putBack_24 : decode cX9_putBack 24 = .ok (.goto (-22), 3) := by decide +kernel
theorem dX9_putBack_27 : decode cX9_putBack 27 = .ok (.return_, 1) := by decide +kernel
theorem dX9_isUnit_0 : decode cX9_isUnit 0 = .ok (.iload_n 1, 1) := by decide +kernel
theorem dX9_isUnit_1 : decode cX9_isUnit 1 = .ok (.iconst 0, 1) := by decide +kernel
theorem dX9_isUnit_2 : decode cX9_isUnit 2 = .ok (.aload_n 0, 1) := by decide +kernel
theorem dX9_isUnit_3 : decode cX9_isUnit 3 = .ok (.getfield 9, 3) := by decide +kernel
theorem dX9_isUnit_6 : decode cX9_isUnit 6 = .ok (.sipush 1766, 3) := by decide +kernel
theorem dX9_isUnit_9 : decode cX9_isUnit 9 = .ok (.iaload, 1) := by decide +kernel
theorem dX9_isUnit_10 : decode cX9_isUnit 10 = .ok (.iconst 1, 1) := by decide +kernel
theorem dX9_isUnit_11 : decode cX9_isUnit 11 = .ok (.isub, 1) := by decide +kernel
theorem dX9_isUnit_12 : decode cX9_isUnit 12 = .ok (.invokestatic 45, 3) := by decide +kernel
theorem dX9_isUnit_15 : decode cX9_isUnit 15 = .ok (.ireturn, 1) := by decide +kernel
theorem dX9_way_0 : decode cX9_way 0 = .ok (.iconst 0, 1) := by decide +kernel
theorem dX9_way_1 : decode cX9_way 1 = .ok (.istore_n 2, 1) := by decide +kernel
theorem dX9_way_2 : decode cX9_way 2 = .ok (.iconst 1, 1) := by decide +kernel
theorem dX9_way_3 : decode cX9_way 3 = .ok (.istore_n 3, 1) := by decide +kernel
theorem dX9_way_4 : decode cX9_way 4 = .ok (.iload_n 3, 1) := by decide +kernel
theorem dX9_way_5 : decode cX9_way 5 = .ok (.iload_n 1, 1) := by decide +kernel
theorem dX9_way_6 : decode cX9_way 6 = .ok (.if_icmp .gt 18, 3) := by decide +kernel
theorem dX9_way_9 : decode cX9_way 9 = .ok (.iload_n 2, 1) := by decide +kernel
theorem dX9_way_10 : decode cX9_way 10 = .ok (.aload_n 0, 1) := by decide +kernel
theorem dX9_way_11 : decode cX9_way 11 = .ok (.iload_n 3, 1) := by decide +kernel
theorem dX9_way_12 : decode cX9_way 12 = .ok (.iconst 0, 1) := by decide +kernel
theorem dX9_way_13 : decode cX9_way 13 = .ok (.invokevirtual 49, 3) := by decide +kernel
theorem dX9_way_16 : decode cX9_way 16 = .ok (.iadd, 1) := by decide +kernel
theorem dX9_way_17 : decode cX9_way 17 = .ok (.istore_n 2, 1) := by decide +kernel
theorem dX9_way_18 : decode cX9_way 18 = .ok (.iinc 3 1, 3) := by decide +kernel
theorem dX9_way_21 : decode cX9_way 21 = .ok (.goto (-17), 3) := by decide +kernel
theorem dX9_way_24 : decode cX9_way 24 = .ok (.iload_n 2, 1) := by decide +kernel
theorem dX9_way_25 : decode cX9_way 25 = .ok (.ireturn, 1) := by decide +kernel
theorem dX9_setUp_0 : decode cX9_setUp 0 = .ok (.iload_n 1, 1) := by decide +kernel
theorem dX9_setUp_1 : decode cX9_setUp 1 = .ok (.iconst 2, 1) := by decide +kernel
theorem dX9_setUp_2 : decode cX9_setUp 2 = .ok (.iconst 5, 1) := by decide +kernel
theorem dX9_setUp_3 : decode cX9_setUp 3 = .ok (.invokestatic 45, 3) := by decide +kernel
theorem dX9_setUp_6 : decode cX9_setUp 6 = .ok (.ifCond .ne 6, 3) := by decide +kernel
theorem dX9_setUp_9 : decode cX9_setUp 9 = .ok (.ldc 52, 2) := by decide +kernel
theorem dX9_setUp_11 : decode cX9_setUp 11 = .ok (.ireturn, 1) := by decide +kernel
theorem dX9_setUp_12 : decode cX9_setUp 12 = .ok (.aload_n 0, 1) := by decide +kernel
theorem dX9_setUp_13 : decode cX9_setUp 13 = .ok (.getfield 9, 3) := by decide +kernel
theorem dX9_setUp_16 : decode cX9_setUp 16 = .ok (.sipush 1765, 3) := by decide +kernel
theorem dX9_setUp_19 : decode cX9_setUp 19 = .ok (.iaload, 1) := by decide +kernel
theorem dX9_setUp_20 : decode cX9_setUp 20 = .ok (.istore_n 2, 1) := by decide +kernel
theorem dX9_setUp_21 : decode cX9_setUp 21 = .ok (.aload_n 0, 1) := by decide +kernel
theorem dX9_setUp_22 : decode cX9_setUp 22 = .ok (.iload_n 1, 1) := by decide +kernel
theorem dX9_setUp_23 : decode cX9_setUp 23 = .ok (.invokevirtual 29, 3) := by decide +kernel
theorem dX9_setUp_26 : decode cX9_setUp 26 = .ok (.iload_n 2, 1) := by decide +kernel
theorem dX9_setUp_27 : decode cX9_setUp 27 = .ok (.ireturn, 1) := by decide +kernel
theorem dX9_takes_0 : decode cX9_takes 0 = .ok (.iload_n 0, 1) := by decide +kernel
theorem dX9_takes_1 : decode cX9_takes 1 = .ok (.tableswitch 115 0 9 #[55, 63, 71, 55, 80, 80, 89, 98, 80, 107], 55) := by decide +kernel
theorem dX9_takes_56 : decode cX9_takes 56 = .ok (.iload_n 1, 1) := by decide +kernel
theorem dX9_takes_57 : decode cX9_takes 57 = .ok (.iconst 1, 1) := by decide +kernel
theorem dX9_takes_58 : decode cX9_takes 58 = .ok (.bipush 20, 2) := by decide +kernel
theorem dX9_takes_60 : decode cX9_takes 60 = .ok (.invokestatic 45, 3) := by decide +kernel
theorem dX9_takes_63 : decode cX9_takes 63 = .ok (.ireturn, 1) := by decide +kernel
theorem dX9_takes_64 : decode cX9_takes 64 = .ok (.iload_n 1, 1) := by decide +kernel
theorem dX9_takes_65 : decode cX9_takes 65 = .ok (.iconst 1, 1) := by decide +kernel
theorem dX9_takes_66 : decode cX9_takes 66 = .ok (.bipush 10, 2) := by decide +kernel
theorem dX9_takes_68 : decode cX9_takes 68 = .ok (.invokestatic 45, 3) := by decide +kernel
theorem dX9_takes_71 : decode cX9_takes 71 = .ok (.ireturn, 1) := by decide +kernel
theorem dX9_takes_72 : decode cX9_takes 72 = .ok (.iload_n 1, 1) := by decide +kernel
theorem dX9_takes_73 : decode cX9_takes 73 = .ok (.iconst 5, 1) := by decide +kernel
theorem dX9_takes_74 : decode cX9_takes 74 = .ok (.sipush 2000, 3) := by decide +kernel
theorem dX9_takes_77 : decode cX9_takes 77 = .ok (.invokestatic 45, 3) := by decide +kernel
theorem dX9_takes_80 : decode cX9_takes 80 = .ok (.ireturn, 1) := by decide +kernel
theorem dX9_takes_81 : decode cX9_takes 81 = .ok (.iload_n 1, 1) := by decide +kernel
theorem dX9_takes_82 : decode cX9_takes 82 = .ok (.iconst 0, 1) := by decide +kernel
theorem dX9_takes_83 : decode cX9_takes 83 = .ok (.sipush 256, 3) := by decide +kernel
theorem dX9_takes_86 : decode cX9_takes 86 = .ok (.invokestatic 45, 3) := by decide +kernel
theorem dX9_takes_89 : decode cX9_takes 89 = .ok (.ireturn, 1) := by decide +kernel
theorem dX9_takes_90 : decode cX9_takes 90 = .ok (.iload_n 1, 1) := by decide +kernel
theorem dX9_takes_91 : decode cX9_takes 91 = .ok (.iconst 0, 1) := by decide +kernel
theorem dX9_takes_92 : decode cX9_takes 92 = .ok (.sipush 500, 3) := by decide +kernel
theorem dX9_takes_95 : decode cX9_takes 95 = .ok (.invokestatic 45, 3) := by decide +kernel
theorem dX9_takes_98 : decode cX9_takes 98 = .ok (.ireturn, 1) := by decide +kernel
theorem dX9_takes_99 : decode cX9_takes 99 = .ok (.iload_n 1, 1) := by decide +kernel
theorem dX9_takes_100 : decode cX9_takes 100 = .ok (.iconst 1, 1) := by decide +kernel
theorem dX9_takes_101 : decode cX9_takes 101 = .ok (.sipush 2000, 3) := by decide +kernel
theorem dX9_takes_104 : decode cX9_takes 104 = .ok (.invokestatic 45, 3) := by decide +kernel
theorem dX9_takes_107 : decode cX9_takes 107 = .ok (.ireturn, 1) := by decide +kernel
theorem dX9_takes_108 : decode cX9_takes 108 = .ok (.iload_n 1, 1) := by decide +kernel
theorem dX9_takes_109 : decode cX9_takes 109 = .ok (.iconst 0, 1) := by decide +kernel
theorem dX9_takes_110 : decode cX9_takes 110 = .ok (.bipush 30, 2) := by decide +kernel
theorem dX9_takes_112 : decode cX9_takes 112 = .ok (.invokestatic 45, 3) := by decide +kernel
theorem dX9_takes_115 : decode cX9_takes 115 = .ok (.ireturn, 1) := by decide +kernel
theorem dX9_takes_116 : decode cX9_takes 116 = .ok (.iload_n 0, 1) := by decide +kernel
theorem dX9_takes_117 : decode cX9_takes 117 = .ok (.bipush 10, 2) := by decide +kernel
theorem dX9_takes_119 : decode cX9_takes 119 = .ok (.if_icmp .ne 20, 3) := by decide +kernel
theorem dX9_takes_122 : decode cX9_takes 122 = .ok (.iload_n 1, 1) := by decide +kernel
theorem dX9_takes_123 : decode cX9_takes 123 = .ok (.sipush (-500), 3) := by decide +kernel
theorem dX9_takes_126 : decode cX9_takes 126 = .ok (.sipush 500, 3) := by decide +kernel
theorem dX9_takes_129 : decode cX9_takes 129 = .ok (.invokestatic 45, 3) := by decide +kernel
theorem dX9_takes_132 : decode cX9_takes 132 = .ok (.ifCond .eq 7, 3) := by decide +kernel
theorem dX9_takes_135 : decode cX9_takes 135 = .ok (.iconst 1, 1) := by decide +kernel
theorem dX9_takes_136 : decode cX9_takes 136 = .ok (.goto 4, 3) := by decide +kernel
theorem dX9_takes_139 : decode cX9_takes 139 = .ok (.iconst 0, 1) := by decide +kernel
theorem dX9_takes_140 : decode cX9_takes 140 = .ok (.ireturn, 1) := by decide +kernel
theorem dX9_set_0 : decode cX9_set 0 = .ok (.aload_n 0, 1) := by decide +kernel
theorem dX9_set_1 : decode cX9_set 1 = .ok (.iload_n 1, 1) := by decide +kernel
theorem dX9_set_2 : decode cX9_set 2 = .ok (.invokevirtual 53, 3) := by decide +kernel
theorem dX9_set_5 : decode cX9_set 5 = .ok (.ifCond .ne 6, 3) := by decide +kernel
theorem dX9_set_8 : decode cX9_set 8 = .ok (.ldc 57, 2) := by decide +kernel
theorem dX9_set_10 : decode cX9_set 10 = .ok (.ireturn, 1) := by decide +kernel
theorem dX9_set_11 : decode cX9_set 11 = .ok (.iload_n 2, 1) := by decide +kernel
theorem dX9_set_12 : decode cX9_set 12 = .ok (.iload_n 3, 1) := by decide +kernel
theorem dX9_set_13 : decode cX9_set 13 = .ok (.invokestatic 58, 3) := by decide +kernel
theorem dX9_set_16 : decode cX9_set 16 = .ok (.ifCond .ne 6, 3) := by decide +kernel
theorem dX9_set_19 : decode cX9_set 19 = .ok (.ldc 52, 2) := by decide +kernel
theorem dX9_set_21 : decode cX9_set 21 = .ok (.ireturn, 1) := by decide +kernel
theorem dX9_set_22 : decode cX9_set 22 = .ok (.iload_n 2, 1) := by decide +kernel
theorem dX9_set_23 : decode cX9_set 23 = .ok (.iconst 1, 1) := by decide +kernel
theorem dX9_set_24 : decode cX9_set 24 = .ok (.if_icmp .gt 17, 3) := by decide +kernel
theorem dX9_set_27 : decode cX9_set 27 = .ok (.aload_n 0, 1) := by decide +kernel
theorem dX9_set_28 : decode cX9_set 28 = .ok (.getfield 9, 3) := by decide +kernel
theorem dX9_set_31 : decode cX9_set 31 = .ok (.sipush 1765, 3) := by decide +kernel
theorem dX9_set_34 : decode cX9_set 34 = .ok (.iaload, 1) := by decide +kernel
theorem dX9_set_35 : decode cX9_set 35 = .ok (.ifCond .eq 6, 3) := by decide +kernel
theorem dX9_set_38 : decode cX9_set 38 = .ok (.ldc 62, 2) := by decide +kernel
theorem dX9_set_40 : decode cX9_set 40 = .ok (.ireturn, 1) := by decide +kernel
theorem dX9_set_41 : decode cX9_set 41 = .ok (.aload_n 0, 1) := by decide +kernel
theorem dX9_set_42 : decode cX9_set 42 = .ok (.iload_n 1, 1) := by decide +kernel
theorem dX9_set_43 : decode cX9_set 43 = .ok (.iload_n 2, 1) := by decide +kernel
theorem dX9_set_44 : decode cX9_set 44 = .ok (.invokevirtual 49, 3) := by decide +kernel
theorem dX9_set_47 : decode cX9_set 47 = .ok (.istore 4, 2) := by decide +kernel
theorem dX9_set_49 : decode cX9_set 49 = .ok (.aload_n 0, 1) := by decide +kernel
theorem dX9_set_50 : decode cX9_set 50 = .ok (.iload_n 1, 1) := by decide +kernel
theorem dX9_set_51 : decode cX9_set 51 = .ok (.iload_n 2, 1) := by decide +kernel
theorem dX9_set_52 : decode cX9_set 52 = .ok (.iload_n 3, 1) := by decide +kernel
theorem dX9_set_53 : decode cX9_set 53 = .ok (.invokevirtual 41, 3) := by decide +kernel
theorem dX9_set_56 : decode cX9_set 56 = .ok (.iload 4, 2) := by decide +kernel
theorem dX9_set_58 : decode cX9_set 58 = .ok (.ireturn, 1) := by decide +kernel
theorem dX9_get_0 : decode cX9_get 0 = .ok (.aload_n 0, 1) := by decide +kernel
theorem dX9_get_1 : decode cX9_get 1 = .ok (.iload_n 1, 1) := by decide +kernel
theorem dX9_get_2 : decode cX9_get 2 = .ok (.invokevirtual 53, 3) := by decide +kernel
theorem dX9_get_5 : decode cX9_get 5 = .ok (.ifCond .ne 6, 3) := by decide +kernel
theorem dX9_get_8 : decode cX9_get 8 = .ok (.ldc 57, 2) := by decide +kernel
theorem dX9_get_10 : decode cX9_get 10 = .ok (.ireturn, 1) := by decide +kernel
theorem dX9_get_11 : decode cX9_get 11 = .ok (.iload_n 2, 1) := by decide +kernel
theorem dX9_get_12 : decode cX9_get 12 = .ok (.iconst 0, 1) := by decide +kernel
theorem dX9_get_13 : decode cX9_get 13 = .ok (.bipush 10, 2) := by decide +kernel
theorem dX9_get_15 : decode cX9_get 15 = .ok (.invokestatic 45, 3) := by decide +kernel
theorem dX9_get_18 : decode cX9_get 18 = .ok (.ifCond .eq 12, 3) := by decide +kernel
theorem dX9_get_21 : decode cX9_get 21 = .ok (.aload_n 0, 1) := by decide +kernel
theorem dX9_get_22 : decode cX9_get 22 = .ok (.iload_n 1, 1) := by decide +kernel
theorem dX9_get_23 : decode cX9_get 23 = .ok (.iload_n 2, 1) := by decide +kernel
theorem dX9_get_24 : decode cX9_get 24 = .ok (.invokevirtual 49, 3) := by decide +kernel
theorem dX9_get_27 : decode cX9_get 27 = .ok (.goto 5, 3) := by decide +kernel
theorem dX9_get_30 : decode cX9_get 30 = .ok (.ldc 52, 2) := by decide +kernel
theorem dX9_get_32 : decode cX9_get 32 = .ok (.ireturn, 1) := by decide +kernel
theorem dX9_adjust_0 : decode cX9_adjust 0 = .ok (.aload_n 0, 1) := by decide +kernel
theorem dX9_adjust_1 : decode cX9_adjust 1 = .ok (.iload_n 1, 1) := by decide +kernel
theorem dX9_adjust_2 : decode cX9_adjust 2 = .ok (.invokevirtual 53, 3) := by decide +kernel
theorem dX9_adjust_5 : decode cX9_adjust 5 = .ok (.ifCond .ne 6, 3) := by decide +kernel
theorem dX9_adjust_8 : decode cX9_adjust 8 = .ok (.ldc 57, 2) := by decide +kernel
theorem dX9_adjust_10 : decode cX9_adjust 10 = .ok (.ireturn, 1) := by decide +kernel
theorem dX9_adjust_11 : decode cX9_adjust 11 = .ok (.iload_n 2, 1) := by decide +kernel
theorem dX9_adjust_12 : decode cX9_adjust 12 = .ok (.ifCond .ne 9, 3) := by decide +kernel
theorem dX9_adjust_15 : decode cX9_adjust 15 = .ok (.sipush 5000, 3) := by decide +kernel
theorem dX9_adjust_18 : decode cX9_adjust 18 = .ok (.goto 17, 3) := by decide +kernel
theorem dX9_adjust_21 : decode cX9_adjust 21 = .ok (.iload_n 2, 1) := by decide +kernel
theorem dX9_adjust_22 : decode cX9_adjust 22 = .ok (.iconst 1, 1) := by decide +kernel
theorem dX9_adjust_23 : decode cX9_adjust 23 = .ok (.if_icmp .ne 9, 3) := by decide +kernel
theorem dX9_adjust_26 : decode cX9_adjust 26 = .ok (.sipush 3000, 3) := by decide +kernel
theorem dX9_adjust_29 : decode cX9_adjust 29 = .ok (.goto 6, 3) := by decide +kernel
theorem dX9_adjust_32 : decode cX9_adjust 32 = .ok (.sipush 2000, 3) := by decide +kernel
theorem dX9_adjust_35 : decode cX9_adjust 35 = .ok (.istore 4, 2) := by decide +kernel
theorem dX9_adjust_37 : decode cX9_adjust 37 = .ok (.iload_n 2, 1) := by decide +kernel
theorem dX9_adjust_38 : decode cX9_adjust 38 = .ok (.iconst 0, 1) := by decide +kernel
theorem dX9_adjust_39 : decode cX9_adjust 39 = .ok (.iconst 2, 1) := by decide +kernel
theorem dX9_adjust_40 : decode cX9_adjust 40 = .ok (.invokestatic 45, 3) := by decide +kernel
theorem dX9_adjust_43 : decode cX9_adjust 43 = .ok (.ifCond .eq 15, 3) := by decide +kernel
theorem dX9_adjust_46 : decode cX9_adjust 46 = .ok (.iload_n 3, 1) := by decide +kernel
theorem dX9_adjust_47 : decode cX9_adjust 47 = .ok (.iload 4, 2) := by decide +kernel
theorem dX9_adjust_49 : decode cX9_adjust 49 = .ok (.ineg, 1) := by decide +kernel
theorem dX9_adjust_50 : decode cX9_adjust 50 = .ok (.iload 4, 2) := by decide +kernel
theorem dX9_adjust_52 : decode cX9_adjust 52 = .ok (.invokestatic 45, 3) := by decide +kernel
theorem dX9_adjust_55 : decode cX9_adjust 55 = .ok (.ifCond .ne 6, 3) := by decide +kernel
theorem dX9_adjust_58 : decode cX9_adjust 58 = .ok (.ldc 52, 2) := by decide +kernel
theorem dX9_adjust_60 : decode cX9_adjust 60 = .ok (.ireturn, 1) := by decide +kernel
theorem dX9_adjust_61 : decode cX9_adjust 61 = .ok (.aload_n 0, 1) := by decide +kernel
theorem dX9_adjust_62 : decode cX9_adjust 62 = .ok (.iload_n 1, 1) := by decide +kernel
theorem dX9_adjust_63 : decode cX9_adjust 63 = .ok (.bipush 11, 2) := by decide +kernel
theorem dX9_adjust_65 : decode cX9_adjust 65 = .ok (.iload_n 2, 1) := by decide +kernel
theorem dX9_adjust_66 : decode cX9_adjust 66 = .ok (.iadd, 1) := by decide +kernel
theorem dX9_adjust_67 : decode cX9_adjust 67 = .ok (.invokevirtual 49, 3) := by decide +kernel
theorem dX9_adjust_70 : decode cX9_adjust 70 = .ok (.istore 5, 2) := by decide +kernel
theorem dX9_adjust_72 : decode cX9_adjust 72 = .ok (.aload_n 0, 1) := by decide +kernel
theorem dX9_adjust_73 : decode cX9_adjust 73 = .ok (.iload_n 1, 1) := by decide +kernel
theorem dX9_adjust_74 : decode cX9_adjust 74 = .ok (.bipush 11, 2) := by decide +kernel
theorem dX9_adjust_76 : decode cX9_adjust 76 = .ok (.iload_n 2, 1) := by decide +kernel
theorem dX9_adjust_77 : decode cX9_adjust 77 = .ok (.iadd, 1) := by decide +kernel
theorem dX9_adjust_78 : decode cX9_adjust 78 = .ok (.iload_n 3, 1) := by decide +kernel
theorem dX9_adjust_79 : decode cX9_adjust 79 = .ok (.invokevirtual 41, 3) := by decide +kernel
theorem dX9_adjust_82 : decode cX9_adjust 82 = .ok (.iload 5, 2) := by decide +kernel
theorem dX9_adjust_84 : decode cX9_adjust 84 = .ok (.ireturn, 1) := by decide +kernel
theorem dX9_restart_0 : decode cX9_restart 0 = .ok (.aload_n 0, 1) := by decide +kernel
theorem dX9_restart_1 : decode cX9_restart 1 = .ok (.iload_n 1, 1) := by decide +kernel
theorem dX9_restart_2 : decode cX9_restart 2 = .ok (.invokevirtual 53, 3) := by decide +kernel
theorem dX9_restart_5 : decode cX9_restart 5 = .ok (.ifCond .ne 6, 3) := by decide +kernel
theorem dX9_restart_8 : decode cX9_restart 8 = .ok (.ldc 57, 2) := by decide +kernel
theorem dX9_restart_10 : decode cX9_restart 10 = .ok (.ireturn, 1) := by decide +kernel
theorem dX9_restart_11 : decode cX9_restart 11 = .ok (.aload_n 0, 1) := by decide +kernel
theorem dX9_restart_12 : decode cX9_restart 12 = .ok (.iload_n 1, 1) := by decide +kernel
theorem dX9_restart_13 : decode cX9_restart 13 = .ok (.bipush 14, 2) := by decide +kernel
theorem dX9_restart_15 : decode cX9_restart 15 = .ok (.invokevirtual 49, 3) := by decide +kernel
theorem dX9_restart_18 : decode cX9_restart 18 = .ok (.istore_n 2, 1) := by decide +kernel
theorem dX9_restart_19 : decode cX9_restart 19 = .ok (.bipush 14, 2) := by decide +kernel
theorem dX9_restart_21 : decode cX9_restart 21 = .ok (.istore_n 3, 1) := by decide +kernel
theorem dX9_restart_22 : decode cX9_restart 22 = .ok (.iload_n 3, 1) := by decide +kernel
theorem dX9_restart_23 : decode cX9_restart 23 = .ok (.bipush 20, 2) := by decide +kernel
theorem dX9_restart_25 : decode cX9_restart 25 = .ok (.if_icmp .gt 16, 3) := by decide +kernel
theorem dX9_restart_28 : decode cX9_restart 28 = .ok (.aload_n 0, 1) := by decide +kernel
theorem dX9_restart_29 : decode cX9_restart 29 = .ok (.iload_n 1, 1) := by decide +kernel
theorem dX9_restart_30 : decode cX9_restart 30 = .ok (.iload_n 3, 1) := by decide +kernel
theorem dX9_restart_31 : decode cX9_restart 31 = .ok (.iconst 0, 1) := by decide +kernel
theorem dX9_restart_32 : decode cX9_restart 32 = .ok (.invokevirtual 41, 3) := by decide +kernel
theorem dX9_restart_35 : decode cX9_restart 35 = .ok (.iinc 3 1, 3) := by decide +kernel
theorem dX9_restart_38 : decode cX9_restart 38 = .ok (.goto (-16), 3) := by decide +kernel
theorem dX9_restart_41 : decode cX9_restart 41 = .ok (.iload_n 2, 1) := by decide +kernel
theorem dX9_restart_42 : decode cX9_restart 42 = .ok (.ireturn, 1) := by decide +kernel
theorem dX9_speed_0 : decode cX9_speed 0 = .ok (.iload_n 1, 1) := by decide +kernel
theorem dX9_speed_1 : decode cX9_speed 1 = .ok (.iconst 0, 1) := by decide +kernel
theorem dX9_speed_2 : decode cX9_speed 2 = .ok (.sipush 1000, 3) := by decide +kernel
theorem dX9_speed_5 : decode cX9_speed 5 = .ok (.invokestatic 45, 3) := by decide +kernel
theorem dX9_speed_8 : decode cX9_speed 8 = .ok (.ifCond .ne 6, 3) := by decide +kernel
theorem dX9_speed_11 : decode cX9_speed 11 = .ok (.ldc 52, 2) := by decide +kernel
theorem dX9_speed_13 : decode cX9_speed 13 = .ok (.ireturn, 1) := by decide +kernel
theorem dX9_speed_14 : decode cX9_speed 14 = .ok (.aload_n 0, 1) := by decide +kernel
theorem dX9_speed_15 : decode cX9_speed 15 = .ok (.getfield 9, 3) := by decide +kernel
theorem dX9_speed_18 : decode cX9_speed 18 = .ok (.sipush 1767, 3) := by decide +kernel
theorem dX9_speed_21 : decode cX9_speed 21 = .ok (.iaload, 1) := by decide +kernel
theorem dX9_speed_22 : decode cX9_speed 22 = .ok (.istore_n 2, 1) := by decide +kernel
theorem dX9_speed_23 : decode cX9_speed 23 = .ok (.aload_n 0, 1) := by decide +kernel
theorem dX9_speed_24 : decode cX9_speed 24 = .ok (.getfield 9, 3) := by decide +kernel
theorem dX9_speed_27 : decode cX9_speed 27 = .ok (.sipush 1767, 3) := by decide +kernel
theorem dX9_speed_30 : decode cX9_speed 30 = .ok (.iload_n 1, 1) := by decide +kernel
theorem dX9_speed_31 : decode cX9_speed 31 = .ok (.iastore, 1) := by decide +kernel
theorem dX9_speed_32 : decode cX9_speed 32 = .ok (.iload_n 2, 1) := by decide +kernel
theorem dX9_speed_33 : decode cX9_speed 33 = .ok (.ireturn, 1) := by decide +kernel
theorem dX9_giveDisturbance_0 : decode cX9_giveDisturbance 0 = .ok (.aload_n 0, 1) := by decide +kernel
theorem dX9_giveDisturbance_1 : decode cX9_giveDisturbance 1 = .ok (.iload_n 1, 1) := by decide +kernel
theorem dX9_giveDisturbance_2 : decode cX9_giveDisturbance 2 = .ok (.bipush 21, 2) := by decide +kernel
theorem dX9_giveDisturbance_4 : decode cX9_giveDisturbance 4 = .ok (.iload_n 2, 1) := by decide +kernel
theorem dX9_giveDisturbance_5 : decode cX9_giveDisturbance 5 = .ok (.invokevirtual 41, 3) := by decide +kernel
theorem dX9_giveDisturbance_8 : decode cX9_giveDisturbance 8 = .ok (.aload_n 0, 1) := by decide +kernel
theorem dX9_giveDisturbance_9 : decode cX9_giveDisturbance 9 = .ok (.iload_n 1, 1) := by decide +kernel
theorem dX9_giveDisturbance_10 : decode cX9_giveDisturbance 10 = .ok (.bipush 22, 2) := by decide +kernel
theorem dX9_giveDisturbance_12 : decode cX9_giveDisturbance 12 = .ok (.iload_n 3, 1) := by decide +kernel
theorem dX9_giveDisturbance_13 : decode cX9_giveDisturbance 13 = .ok (.invokevirtual 41, 3) := by decide +kernel
theorem dX9_giveDisturbance_16 : decode cX9_giveDisturbance 16 = .ok (.aload_n 0, 1) := by decide +kernel
theorem dX9_giveDisturbance_17 : decode cX9_giveDisturbance 17 = .ok (.iload_n 1, 1) := by decide +kernel
theorem dX9_giveDisturbance_18 : decode cX9_giveDisturbance 18 = .ok (.bipush 23, 2) := by decide +kernel
theorem dX9_giveDisturbance_20 : decode cX9_giveDisturbance 20 = .ok (.iload_n 3, 1) := by decide +kernel
theorem dX9_giveDisturbance_21 : decode cX9_giveDisturbance 21 = .ok (.invokevirtual 41, 3) := by decide +kernel
theorem dX9_giveDisturbance_24 : decode cX9_giveDisturbance 24 = .ok (.return_, 1) := by decide +kernel
theorem dX9_isDisturbance_0 : decode cX9_isDisturbance 0 = .ok (.iload_n 0, 1) := by decide +kernel
theorem dX9_isDisturbance_1 : decode cX9_isDisturbance 1 = .ok (.sipush (-3000), 3) := by decide +kernel
theorem dX9_isDisturbance_4 : decode cX9_isDisturbance 4 = .ok (.sipush 3000, 3) := by decide +kernel
theorem dX9_isDisturbance_7 : decode cX9_isDisturbance 7 = .ok (.invokestatic 45, 3) := by decide +kernel
theorem dX9_isDisturbance_10 : decode cX9_isDisturbance 10 = .ok (.ifCond .eq 17, 3) := by decide +kernel
theorem dX9_isDisturbance_13 : decode cX9_isDisturbance 13 = .ok (.iload_n 1, 1) := by decide +kernel
theorem dX9_isDisturbance_14 : decode cX9_isDisturbance 14 = .ok (.iconst 1, 1) := by decide +kernel
theorem dX9_isDisturbance_15 : decode cX9_isDisturbance 15 = .ok (.bipush 50, 2) := by decide +kernel
theorem dX9_isDisturbance_17 : decode cX9_isDisturbance 17 = .ok (.invokestatic 45, 3) := by decide +kernel
theorem dX9_isDisturbance_20 : decode cX9_isDisturbance 20 = .ok (.ifCond .eq 7, 3) := by decide +kernel
theorem dX9_isDisturbance_23 : decode cX9_isDisturbance 23 = .ok (.iconst 1, 1) := by decide +kernel
theorem dX9_isDisturbance_24 : decode cX9_isDisturbance 24 = .ok (.goto 4, 3) := by decide +kernel
theorem dX9_isDisturbance_27 : decode cX9_isDisturbance 27 = .ok (.iconst 0, 1) := by decide +kernel
theorem dX9_isDisturbance_28 : decode cX9_isDisturbance 28 = .ok (.ireturn, 1) := by decide +kernel
theorem dX9_disturb_0 : decode cX9_disturb 0 = .ok (.aload_n 0, 1) := by decide +kernel
theorem dX9_disturb_1 : decode cX9_disturb 1 = .ok (.iload_n 1, 1) := by decide +kernel
theorem dX9_disturb_2 : decode cX9_disturb 2 = .ok (.invokevirtual 53, 3) := by decide +kernel
theorem dX9_disturb_5 : decode cX9_disturb 5 = .ok (.ifCond .ne 6, 3) := by decide +kernel
theorem dX9_disturb_8 : decode cX9_disturb 8 = .ok (.ldc 57, 2) := by decide +kernel
theorem dX9_disturb_10 : decode cX9_disturb 10 = .ok (.ireturn, 1) := by decide +kernel
theorem dX9_disturb_11 : decode cX9_disturb 11 = .ok (.iload_n 2, 1) := by decide +kernel
theorem dX9_disturb_12 : decode cX9_disturb 12 = .ok (.iload_n 3, 1) := by decide +kernel
theorem dX9_disturb_13 : decode cX9_disturb 13 = .ok (.invokestatic 63, 3) := by decide +kernel
theorem dX9_disturb_16 : decode cX9_disturb 16 = .ok (.ifCond .ne 6, 3) := by decide +kernel
theorem dX9_disturb_19 : decode cX9_disturb 19 = .ok (.ldc 52, 2) := by decide +kernel
theorem dX9_disturb_21 : decode cX9_disturb 21 = .ok (.ireturn, 1) := by decide +kernel
theorem dX9_disturb_22 : decode cX9_disturb 22 = .ok (.aload_n 0, 1) := by decide +kernel
theorem dX9_disturb_23 : decode cX9_disturb 23 = .ok (.iload_n 1, 1) := by decide +kernel
theorem dX9_disturb_24 : decode cX9_disturb 24 = .ok (.iload_n 2, 1) := by decide +kernel
theorem dX9_disturb_25 : decode cX9_disturb 25 = .ok (.iload_n 3, 1) := by decide +kernel
theorem dX9_disturb_26 : decode cX9_disturb 26 = .ok (.invokevirtual 66, 3) := by decide +kernel
theorem dX9_disturb_29 : decode cX9_disturb 29 = .ok (.aload_n 0, 1) := by decide +kernel
theorem dX9_disturb_30 : decode cX9_disturb 30 = .ok (.getfield 9, 3) := by decide +kernel
theorem dX9_disturb_33 : decode cX9_disturb 33 = .ok (.sipush 1765, 3) := by decide +kernel
theorem dX9_disturb_36 : decode cX9_disturb 36 = .ok (.iaload, 1) := by decide +kernel
theorem dX9_disturb_37 : decode cX9_disturb 37 = .ok (.ireturn, 1) := by decide +kernel
theorem dX9_hide_0 : decode cX9_hide 0 = .ok (.aload_n 0, 1) := by decide +kernel
theorem dX9_hide_1 : decode cX9_hide 1 = .ok (.iload_n 1, 1) := by decide +kernel
theorem dX9_hide_2 : decode cX9_hide 2 = .ok (.invokevirtual 53, 3) := by decide +kernel
theorem dX9_hide_5 : decode cX9_hide 5 = .ok (.ifCond .ne 6, 3) := by decide +kernel
theorem dX9_hide_8 : decode cX9_hide 8 = .ok (.ldc 57, 2) := by decide +kernel
theorem dX9_hide_10 : decode cX9_hide 10 = .ok (.ireturn, 1) := by decide +kernel
theorem dX9_hide_11 : decode cX9_hide 11 = .ok (.iload_n 2, 1) := by decide +kernel
theorem dX9_hide_12 : decode cX9_hide 12 = .ok (.iconst 0, 1) := by decide +kernel
theorem dX9_hide_13 : decode cX9_hide 13 = .ok (.bipush 50, 2) := by decide +kernel
theorem dX9_hide_15 : decode cX9_hide 15 = .ok (.invokestatic 45, 3) := by decide +kernel
theorem dX9_hide_18 : decode cX9_hide 18 = .ok (.ifCond .ne 6, 3) := by decide +kernel
theorem dX9_hide_21 : decode cX9_hide 21 = .ok (.ldc 52, 2) := by decide +kernel
theorem dX9_hide_23 : decode cX9_hide 23 = .ok (.ireturn, 1) := by decide +kernel
theorem dX9_hide_24 : decode cX9_hide 24 = .ok (.aload_n 0, 1) := by decide +kernel
theorem dX9_hide_25 : decode cX9_hide 25 = .ok (.iload_n 1, 1) := by decide +kernel
theorem dX9_hide_26 : decode cX9_hide 26 = .ok (.bipush 24, 2) := by decide +kernel
theorem dX9_hide_28 : decode cX9_hide 28 = .ok (.invokevirtual 49, 3) := by decide +kernel
theorem dX9_hide_31 : decode cX9_hide 31 = .ok (.istore_n 3, 1) := by decide +kernel
theorem dX9_hide_32 : decode cX9_hide 32 = .ok (.aload_n 0, 1) := by decide +kernel
theorem dX9_hide_33 : decode cX9_hide 33 = .ok (.iload_n 1, 1) := by decide +kernel
theorem dX9_hide_34 : decode cX9_hide 34 = .ok (.bipush 24, 2) := by decide +kernel
theorem dX9_hide_36 : decode cX9_hide 36 = .ok (.iload_n 2, 1) := by decide +kernel
theorem dX9_hide_37 : decode cX9_hide 37 = .ok (.invokevirtual 41, 3) := by decide +kernel
theorem dX9_hide_40 : decode cX9_hide 40 = .ok (.iload_n 3, 1) := by decide +kernel
theorem dX9_hide_41 : decode cX9_hide 41 = .ok (.ireturn, 1) := by decide +kernel
theorem dX9_falseMark_0 : decode cX9_falseMark 0 = .ok (.aload_n 0, 1) := by decide +kernel
theorem dX9_falseMark_1 : decode cX9_falseMark 1 = .ok (.iload_n 1, 1) := by decide +kernel
theorem dX9_falseMark_2 : decode cX9_falseMark 2 = .ok (.invokevirtual 53, 3) := by decide +kernel
theorem dX9_falseMark_5 : decode cX9_falseMark 5 = .ok (.ifCond .ne 6, 3) := by decide +kernel
theorem dX9_falseMark_8 : decode cX9_falseMark 8 = .ok (.ldc 57, 2) := by decide +kernel
theorem dX9_falseMark_10 : decode cX9_falseMark 10 = .ok (.ireturn, 1) := by decide +kernel
theorem dX9_falseMark_11 : decode cX9_falseMark 11 = .ok (.iload_n 2, 1) := by decide +kernel
theorem dX9_falseMark_12 : decode cX9_falseMark 12 = .ok (.sipush (-3000), 3) := by decide +kernel
theorem dX9_falseMark_15 : decode cX9_falseMark 15 = .ok (.sipush 3000, 3) := by decide +kernel
theorem dX9_falseMark_18 : decode cX9_falseMark 18 = .ok (.invokestatic 45, 3) := by decide +kernel
theorem dX9_falseMark_21 : decode cX9_falseMark 21 = .ok (.ifCond .eq 13, 3) := by decide +kernel
theorem dX9_falseMark_24 : decode cX9_falseMark 24 = .ok (.iload_n 3, 1) := by decide +kernel
theorem dX9_falseMark_25 : decode cX9_falseMark 25 = .ok (.iconst 0, 1) := by decide +kernel
theorem dX9_falseMark_26 : decode cX9_falseMark 26 = .ok (.bipush 50, 2) := by decide +kernel
theorem dX9_falseMark_28 : decode cX9_falseMark 28 = .ok (.invokestatic 45, 3) := by decide +kernel
theorem dX9_falseMark_31 : decode cX9_falseMark 31 = .ok (.ifCond .ne 6, 3) := by decide +kernel
theorem dX9_falseMark_34 : decode cX9_falseMark 34 = .ok (.ldc 52, 2) := by decide +kernel
theorem dX9_falseMark_36 : decode cX9_falseMark 36 = .ok (.ireturn, 1) := by decide +kernel
theorem dX9_falseMark_37 : decode cX9_falseMark 37 = .ok (.aload_n 0, 1) := by decide +kernel
theorem dX9_falseMark_38 : decode cX9_falseMark 38 = .ok (.iload_n 1, 1) := by decide +kernel
theorem dX9_falseMark_39 : decode cX9_falseMark 39 = .ok (.bipush 26, 2) := by decide +kernel
theorem dX9_falseMark_41 : decode cX9_falseMark 41 = .ok (.invokevirtual 49, 3) := by decide +kernel
theorem dX9_falseMark_44 : decode cX9_falseMark 44 = .ok (.istore 4, 2) := by decide +kernel
theorem dX9_falseMark_46 : decode cX9_falseMark 46 = .ok (.aload_n 0, 1) := by decide +kernel
theorem dX9_falseMark_47 : decode cX9_falseMark 47 = .ok (.iload_n 1, 1) := by decide +kernel
theorem dX9_falseMark_48 : decode cX9_falseMark 48 = .ok (.bipush 25, 2) := by decide +kernel
theorem dX9_falseMark_50 : decode cX9_falseMark 50 = .ok (.iload_n 2, 1) := by decide +kernel
theorem dX9_falseMark_51 : decode cX9_falseMark 51 = .ok (.invokevirtual 41, 3) := by decide +kernel
theorem dX9_falseMark_54 : decode cX9_falseMark 54 = .ok (.aload_n 0, 1) := by decide +kernel
theorem dX9_falseMark_55 : decode cX9_falseMark 55 = .ok (.iload_n 1, 1) := by decide +kernel
theorem dX9_falseMark_56 : decode cX9_falseMark 56 = .ok (.bipush 26, 2) := by decide +kernel
theorem dX9_falseMark_58 : decode cX9_falseMark 58 = .ok (.iload_n 3, 1) := by decide +kernel
theorem dX9_falseMark_59 : decode cX9_falseMark 59 = .ok (.invokevirtual 41, 3) := by decide +kernel
theorem dX9_falseMark_62 : decode cX9_falseMark 62 = .ok (.iload 4, 2) := by decide +kernel
theorem dX9_falseMark_64 : decode cX9_falseMark 64 = .ok (.ireturn, 1) := by decide +kernel
theorem dX9_startSplice_0 : decode cX9_startSplice 0 = .ok (.aload_n 0, 1) := by decide +kernel
theorem dX9_startSplice_1 : decode cX9_startSplice 1 = .ok (.getfield 9, 3) := by decide +kernel
theorem dX9_startSplice_4 : decode cX9_startSplice 4 = .ok (.sipush 1769, 3) := by decide +kernel
theorem dX9_startSplice_7 : decode cX9_startSplice 7 = .ok (.iload_n 1, 1) := by decide +kernel
theorem dX9_startSplice_8 : decode cX9_startSplice 8 = .ok (.iastore, 1) := by decide +kernel
theorem dX9_startSplice_9 : decode cX9_startSplice 9 = .ok (.aload_n 0, 1) := by decide +kernel
theorem dX9_startSplice_10 : decode cX9_startSplice 10 = .ok (.getfield 9, 3) := by decide +kernel
theorem dX9_startSplice_13 : decode cX9_startSplice 13 = .ok (.sipush 1770, 3) := by decide +kernel
theorem dX9_startSplice_16 : decode cX9_startSplice 16 = .ok (.iload_n 2, 1) := by decide +kernel
theorem dX9_startSplice_17 : decode cX9_startSplice 17 = .ok (.iastore, 1) := by decide +kernel
theorem dX9_startSplice_18 : decode cX9_startSplice 18 = .ok (.aload_n 0, 1) := by decide +kernel
theorem dX9_startSplice_19 : decode cX9_startSplice 19 = .ok (.getfield 9, 3) := by decide +kernel
theorem dX9_startSplice_22 : decode cX9_startSplice 22 = .ok (.sipush 1771, 3) := by decide +kernel
theorem dX9_startSplice_25 : decode cX9_startSplice 25 = .ok (.iconst 1, 1) := by decide +kernel
theorem dX9_startSplice_26 : decode cX9_startSplice 26 = .ok (.iastore, 1) := by decide +kernel
theorem dX9_startSplice_27 : decode cX9_startSplice 27 = .ok (.aload_n 0, 1) := by decide +kernel
theorem dX9_startSplice_28 : decode cX9_startSplice 28 = .ok (.aload_n 0, 1) := by decide +kernel
theorem dX9_startSplice_29 : decode cX9_startSplice 29 = .ok (.getfield 9, 3) := by decide +kernel
theorem dX9_startSplice_32 : decode cX9_startSplice 32 = .ok (.sipush 1766, 3) := by decide +kernel
theorem dX9_startSplice_35 : decode cX9_startSplice 35 = .ok (.iaload, 1) := by decide +kernel
theorem dX9_startSplice_36 : decode cX9_startSplice 36 = .ok (.iconst 1, 1) := by decide +kernel
theorem dX9_startSplice_37 : decode cX9_startSplice 37 = .ok (.isub, 1) := by decide +kernel
theorem dX9_startSplice_38 : decode cX9_startSplice 38 = .ok (.invokevirtual 69, 3) := by decide +kernel
theorem dX9_startSplice_41 : decode cX9_startSplice 41 = .ok (.iconst 1, 1) := by decide +kernel
theorem dX9_startSplice_42 : decode cX9_startSplice 42 = .ok (.iadd, 1) := by decide +kernel
theorem dX9_startSplice_43 : decode cX9_startSplice 43 = .ok (.ireturn, 1) := by decide +kernel
theorem dX9_splice_0 : decode cX9_splice 0 = .ok (.iload_n 1, 1) := by decide +kernel
theorem dX9_splice_1 : decode cX9_splice 1 = .ok (.iload_n 2, 1) := by decide +kernel
theorem dX9_splice_2 : decode cX9_splice 2 = .ok (.invokestatic 63, 3) := by decide +kernel
theorem dX9_splice_5 : decode cX9_splice 5 = .ok (.ifCond .eq 12, 3) := by decide +kernel
theorem dX9_splice_8 : decode cX9_splice 8 = .ok (.aload_n 0, 1) := by decide +kernel
theorem dX9_splice_9 : decode cX9_splice 9 = .ok (.iload_n 1, 1) := by decide +kernel
theorem dX9_splice_10 : decode cX9_splice 10 = .ok (.iload_n 2, 1) := by decide +kernel
theorem dX9_splice_11 : decode cX9_splice 11 = .ok (.invokevirtual 72, 3) := by decide +kernel
theorem dX9_splice_14 : decode cX9_splice 14 = .ok (.goto 5, 3) := by decide +kernel
theorem dX9_splice_17 : decode cX9_splice 17 = .ok (.ldc 52, 2) := by decide +kernel
theorem dX9_splice_19 : decode cX9_splice 19 = .ok (.ireturn, 1) := by decide +kernel
theorem dX9_tally_0 : decode cX9_tally 0 = .ok (.aload_n 0, 1) := by decide +kernel
theorem dX9_tally_1 : decode cX9_tally 1 = .ok (.getfield 9, 3) := by decide +kernel
theorem dX9_tally_4 : decode cX9_tally 4 = .ok (.sipush 1772, 3) := by decide +kernel
theorem dX9_tally_7 : decode cX9_tally 7 = .ok (.iload_n 1, 1) := by decide +kernel
theorem dX9_tally_8 : decode cX9_tally 8 = .ok (.iadd, 1) := by decide +kernel
theorem dX9_tally_9 : decode cX9_tally 9 = .ok (.dup2, 1) := by decide +kernel
theorem dX9_tally_10 : decode cX9_tally 10 = .ok (.iaload, 1) := by decide +kernel
theorem dX9_tally_11 : decode cX9_tally 11 = .ok (.iload_n 2, 1) := by decide +kernel
theorem dX9_tally_12 : decode cX9_tally 12 = .ok (.ifCond .eq 7, 3) := by decide +kernel
theorem dX9_tally_15 : decode cX9_tally 15 = .ok (.iconst 1, 1) := by decide +kernel
theorem dX9_tally_16 : decode cX9_tally 16 = .ok (.goto 4, 3) := by decide +kernel
theorem dX9_tally_19 : decode cX9_tally 19 = .ok (.iconst 0, 1) := by decide +kernel
theorem dX9_tally_20 : decode cX9_tally 20 = .ok (.iadd, 1) := by decide +kernel
theorem dX9_tally_21 : decode cX9_tally 21 = .ok (.iastore, 1) := by decide +kernel
theorem dX9_tally_22 : decode cX9_tally 22 = .ok (.return_, 1) := by decide +kernel
theorem dX9_goOnSplice_0 : decode cX9_goOnSplice 0 = .ok (.aload_n 0, 1) := by decide +kernel
theorem dX9_goOnSplice_1 : decode cX9_goOnSplice 1 = .ok (.getfield 9, 3) := by decide +kernel
theorem dX9_goOnSplice_4 : decode cX9_goOnSplice 4 = .ok (.sipush 1771, 3) := by decide +kernel
theorem dX9_goOnSplice_7 : decode cX9_goOnSplice 7 = .ok (.iaload, 1) := by decide +kernel
theorem dX9_goOnSplice_8 : decode cX9_goOnSplice 8 = .ok (.ifCond .ne 4, 3) := by decide +kernel
theorem dX9_goOnSplice_11 : decode cX9_goOnSplice 11 = .ok (.return_, 1) := by decide +kernel
theorem dX9_goOnSplice_12 : decode cX9_goOnSplice 12 = .ok (.aload_n 0, 1) := by decide +kernel
theorem dX9_goOnSplice_13 : decode cX9_goOnSplice 13 = .ok (.getfield 9, 3) := by decide +kernel
theorem dX9_goOnSplice_16 : decode cX9_goOnSplice 16 = .ok (.sipush 1771, 3) := by decide +kernel
theorem dX9_goOnSplice_19 : decode cX9_goOnSplice 19 = .ok (.iaload, 1) := by decide +kernel
theorem dX9_goOnSplice_20 : decode cX9_goOnSplice 20 = .ok (.iconst 1, 1) := by decide +kernel
theorem dX9_goOnSplice_21 : decode cX9_goOnSplice 21 = .ok (.isub, 1) := by decide +kernel
theorem dX9_goOnSplice_22 : decode cX9_goOnSplice 22 = .ok (.istore_n 1, 1) := by decide +kernel
theorem dX9_goOnSplice_23 : decode cX9_goOnSplice 23 = .ok (.iconst 0, 1) := by decide +kernel
theorem dX9_goOnSplice_24 : decode cX9_goOnSplice 24 = .ok (.istore_n 2, 1) := by decide +kernel
theorem dX9_goOnSplice_25 : decode cX9_goOnSplice 25 = .ok (.iload_n 2, 1) := by decide +kernel
theorem dX9_goOnSplice_26 : decode cX9_goOnSplice 26 = .ok (.aload_n 0, 1) := by decide +kernel
theorem dX9_goOnSplice_27 : decode cX9_goOnSplice 27 = .ok (.getfield 9, 3) := by decide +kernel
theorem dX9_goOnSplice_30 : decode cX9_goOnSplice 30 = .ok (.sipush 1766, 3) := by decide +kernel
theorem dX9_goOnSplice_33 : decode cX9_goOnSplice 33 = .ok (.iaload, 1) := by decide +kernel
theorem dX9_goOnSplice_34 : decode cX9_goOnSplice 34 = .ok (.if_icmp .ge 68, 3) := by decide +kernel
theorem dX9_goOnSplice_37 : decode cX9_goOnSplice 37 = .ok (.aload_n 0, 1) := by decide +kernel
theorem dX9_goOnSplice_38 : decode cX9_goOnSplice 38 = .ok (.iload_n 2, 1) := by decide +kernel
theorem dX9_goOnSplice_39 : decode cX9_goOnSplice 39 = .ok (.invokevirtual 69, 3) := by decide +kernel
theorem dX9_goOnSplice_42 : decode cX9_goOnSplice 42 = .ok (.iload_n 1, 1) := by decide +kernel
theorem dX9_goOnSplice_43 : decode cX9_goOnSplice 43 = .ok (.if_icmp .ne 53, 3) := by decide +kernel
theorem dX9_goOnSplice_46 : decode cX9_goOnSplice 46 = .ok (.aload_n 0, 1) := by decide +kernel
theorem dX9_goOnSplice_47 : decode cX9_goOnSplice 47 = .ok (.iload_n 2, 1) := by decide +kernel
theorem dX9_goOnSplice_48 : decode cX9_goOnSplice 48 = .ok (.aload_n 0, 1) := by decide +kernel
theorem dX9_goOnSplice_49 : decode cX9_goOnSplice 49 = .ok (.getfield 9, 3) := by decide +kernel
theorem dX9_goOnSplice_52 : decode cX9_goOnSplice 52 = .ok (.sipush 1769, 3) := by decide +kernel
theorem dX9_goOnSplice_55 : decode cX9_goOnSplice 55 = .ok (.iaload, 1) := by decide +kernel
theorem dX9_goOnSplice_56 : decode cX9_goOnSplice 56 = .ok (.aload_n 0, 1) := by decide +kernel
theorem dX9_goOnSplice_57 : decode cX9_goOnSplice 57 = .ok (.getfield 9, 3) := by decide +kernel
theorem dX9_goOnSplice_60 : decode cX9_goOnSplice 60 = .ok (.sipush 1770, 3) := by decide +kernel
theorem dX9_goOnSplice_63 : decode cX9_goOnSplice 63 = .ok (.iaload, 1) := by decide +kernel
theorem dX9_goOnSplice_64 : decode cX9_goOnSplice 64 = .ok (.invokevirtual 66, 3) := by decide +kernel
theorem dX9_goOnSplice_67 : decode cX9_goOnSplice 67 = .ok (.aload_n 0, 1) := by decide +kernel
theorem dX9_goOnSplice_68 : decode cX9_goOnSplice 68 = .ok (.iload_n 2, 1) := by decide +kernel
theorem dX9_goOnSplice_69 : decode cX9_goOnSplice 69 = .ok (.bipush 15, 2) := by decide +kernel
theorem dX9_goOnSplice_71 : decode cX9_goOnSplice 71 = .ok (.iconst 0, 1) := by decide +kernel
theorem dX9_goOnSplice_72 : decode cX9_goOnSplice 72 = .ok (.invokevirtual 41, 3) := by decide +kernel
theorem dX9_goOnSplice_75 : decode cX9_goOnSplice 75 = .ok (.aload_n 0, 1) := by decide +kernel
theorem dX9_goOnSplice_76 : decode cX9_goOnSplice 76 = .ok (.iload_n 2, 1) := by decide +kernel
theorem dX9_goOnSplice_77 : decode cX9_goOnSplice 77 = .ok (.bipush 18, 2) := by decide +kernel
theorem dX9_goOnSplice_79 : decode cX9_goOnSplice 79 = .ok (.aload_n 0, 1) := by decide +kernel
theorem dX9_goOnSplice_80 : decode cX9_goOnSplice 80 = .ok (.iload_n 2, 1) := by decide +kernel
theorem dX9_goOnSplice_81 : decode cX9_goOnSplice 81 = .ok (.iconst 1, 1) := by decide +kernel
theorem dX9_goOnSplice_82 : decode cX9_goOnSplice 82 = .ok (.invokevirtual 49, 3) := by decide +kernel
theorem dX9_goOnSplice_85 : decode cX9_goOnSplice 85 = .ok (.aload_n 0, 1) := by decide +kernel
theorem dX9_goOnSplice_86 : decode cX9_goOnSplice 86 = .ok (.iload_n 2, 1) := by decide +kernel
theorem dX9_goOnSplice_87 : decode cX9_goOnSplice 87 = .ok (.bipush 9, 2) := by decide +kernel
theorem dX9_goOnSplice_89 : decode cX9_goOnSplice 89 = .ok (.invokevirtual 49, 3) := by decide +kernel
theorem dX9_goOnSplice_92 : decode cX9_goOnSplice 92 = .ok (.iadd, 1) := by decide +kernel
theorem dX9_goOnSplice_93 : decode cX9_goOnSplice 93 = .ok (.invokevirtual 41, 3) := by decide +kernel
theorem dX9_goOnSplice_96 : decode cX9_goOnSplice 96 = .ok (.iinc 2 1, 3) := by decide +kernel
theorem dX9_goOnSplice_99 : decode cX9_goOnSplice 99 = .ok (.goto (-74), 3) := by decide +kernel
theorem dX9_goOnSplice_102 : decode cX9_goOnSplice 102 = .ok (.aload_n 0, 1) := by decide +kernel
theorem dX9_goOnSplice_103 : decode cX9_goOnSplice 103 = .ok (.getfield 9, 3) := by decide +kernel
theorem dX9_goOnSplice_106 : decode cX9_goOnSplice 106 = .ok (.sipush 1771, 3) := by decide +kernel
theorem dX9_goOnSplice_109 : decode cX9_goOnSplice 109 = .ok (.iload_n 1, 1) := by decide +kernel
theorem dX9_goOnSplice_110 : decode cX9_goOnSplice 110 = .ok (.aload_n 0, 1) := by decide +kernel
theorem dX9_goOnSplice_111 : decode cX9_goOnSplice 111 = .ok (.aload_n 0, 1) := by decide +kernel
theorem dX9_goOnSplice_112 : decode cX9_goOnSplice 112 = .ok (.getfield 9, 3) := by decide +kernel
theorem dX9_goOnSplice_115 : decode cX9_goOnSplice 115 = .ok (.sipush 1766, 3) := by decide +kernel
theorem dX9_goOnSplice_118 : decode cX9_goOnSplice 118 = .ok (.iaload, 1) := by decide +kernel
theorem dX9_goOnSplice_119 : decode cX9_goOnSplice 119 = .ok (.iconst 1, 1) := by decide +kernel
theorem dX9_goOnSplice_120 : decode cX9_goOnSplice 120 = .ok (.isub, 1) := by decide +kernel
theorem dX9_goOnSplice_121 : decode cX9_goOnSplice 121 = .ok (.invokevirtual 69, 3) := by decide +kernel
theorem dX9_goOnSplice_124 : decode cX9_goOnSplice 124 = .ok (.if_icmp .lt 7, 3) := by decide +kernel
theorem dX9_goOnSplice_127 : decode cX9_goOnSplice 127 = .ok (.iconst 0, 1) := by decide +kernel
theorem dX9_goOnSplice_128 : decode cX9_goOnSplice 128 = .ok (.goto 13, 3) := by decide +kernel
theorem dX9_goOnSplice_131 : decode cX9_goOnSplice 131 = .ok (.aload_n 0, 1) := by decide +kernel
theorem dX9_goOnSplice_132 : decode cX9_goOnSplice 132 = .ok (.getfield 9, 3) := by decide +kernel
theorem dX9_goOnSplice_135 : decode cX9_goOnSplice 135 = .ok (.sipush 1771, 3) := by decide +kernel
theorem dX9_goOnSplice_138 : decode cX9_goOnSplice 138 = .ok (.iaload, 1) := by decide +kernel
theorem dX9_goOnSplice_139 : decode cX9_goOnSplice 139 = .ok (.iconst 1, 1) := by decide +kernel
theorem dX9_goOnSplice_140 : decode cX9_goOnSplice 140 = .ok (.iadd, 1) := by decide +kernel
theorem dX9_goOnSplice_141 : decode cX9_goOnSplice 141 = .ok (.iastore, 1) := by decide +kernel
theorem dX9_goOnSplice_142 : decode cX9_goOnSplice 142 = .ok (.return_, 1) := by decide +kernel
theorem dX9_print_0 : decode cX9_print 0 = .ok (.aload_n 0, 1) := by decide +kernel
theorem dX9_print_1 : decode cX9_print 1 = .ok (.getfield 9, 3) := by decide +kernel
theorem dX9_print_4 : decode cX9_print 4 = .ok (.sipush 1778, 3) := by decide +kernel
theorem dX9_print_7 : decode cX9_print 7 = .ok (.aload_n 0, 1) := by decide +kernel
theorem dX9_print_8 : decode cX9_print 8 = .ok (.getfield 9, 3) := by decide +kernel
theorem dX9_print_11 : decode cX9_print 11 = .ok (.sipush 1765, 3) := by decide +kernel
theorem dX9_print_14 : decode cX9_print 14 = .ok (.iaload, 1) := by decide +kernel
theorem dX9_print_15 : decode cX9_print 15 = .ok (.sipush 128, 3) := by decide +kernel
theorem dX9_print_18 : decode cX9_print 18 = .ok (.irem, 1) := by decide +kernel
theorem dX9_print_19 : decode cX9_print 19 = .ok (.iadd, 1) := by decide +kernel
theorem dX9_print_20 : decode cX9_print 20 = .ok (.iaload, 1) := by decide +kernel
theorem dX9_print_21 : decode cX9_print 21 = .ok (.istore_n 2, 1) := by decide +kernel
theorem dX9_print_22 : decode cX9_print 22 = .ok (.aload_n 0, 1) := by decide +kernel
theorem dX9_print_23 : decode cX9_print 23 = .ok (.iload_n 1, 1) := by decide +kernel
theorem dX9_print_24 : decode cX9_print 24 = .ok (.bipush 23, 2) := by decide +kernel
theorem dX9_print_26 : decode cX9_print 26 = .ok (.invokevirtual 49, 3) := by decide +kernel
theorem dX9_print_29 : decode cX9_print 29 = .ok (.ifCond .le 29, 3) := by decide +kernel
theorem dX9_print_32 : decode cX9_print 32 = .ok (.aload_n 0, 1) := by decide +kernel
theorem dX9_print_33 : decode cX9_print 33 = .ok (.iload_n 1, 1) := by decide +kernel
theorem dX9_print_34 : decode cX9_print 34 = .ok (.bipush 21, 2) := by decide +kernel
theorem dX9_print_36 : decode cX9_print 36 = .ok (.invokevirtual 49, 3) := by decide +kernel
theorem dX9_print_39 : decode cX9_print 39 = .ok (.aload_n 0, 1) := by decide +kernel
theorem dX9_print_40 : decode cX9_print 40 = .ok (.iload_n 1, 1) := by decide +kernel
theorem dX9_print_41 : decode cX9_print 41 = .ok (.bipush 23, 2) := by decide +kernel
theorem dX9_print_43 : decode cX9_print 43 = .ok (.invokevirtual 49, 3) := by decide +kernel
theorem dX9_print_46 : decode cX9_print 46 = .ok (.imul, 1) := by decide +kernel
theorem dX9_print_47 : decode cX9_print 47 = .ok (.aload_n 0, 1) := by decide +kernel
theorem dX9_print_48 : decode cX9_print 48 = .ok (.iload_n 1, 1) := by decide +kernel
theorem dX9_print_49 : decode cX9_print 49 = .ok (.bipush 22, 2) := by decide +kernel
theorem dX9_print_51 : decode cX9_print 51 = .ok (.invokevirtual 49, 3) := by decide +kernel
theorem dX9_print_54 : decode cX9_print 54 = .ok (.idiv, 1) := by decide +kernel
theorem dX9_print_55 : decode cX9_print 55 = .ok (.goto 4, 3) := by decide +kernel
theorem dX9_print_58 : decode cX9_print 58 = .ok (.iconst 0, 1) := by decide +kernel
theorem dX9_print_59 : decode cX9_print 59 = .ok (.istore_n 3, 1) := by decide +kernel
theorem dX9_print_60 : decode cX9_print 60 = .ok (.aload_n 0, 1) := by decide +kernel
theorem dX9_print_61 : decode cX9_print 61 = .ok (.iload_n 1, 1) := by decide +kernel
theorem dX9_print_62 : decode cX9_print 62 = .ok (.bipush 11, 2) := by decide +kernel
theorem dX9_print_64 : decode cX9_print 64 = .ok (.invokevirtual 49, 3) := by decide +kernel
theorem dX9_print_67 : decode cX9_print 67 = .ok (.iload_n 3, 1) := by decide +kernel
theorem dX9_print_68 : decode cX9_print 68 = .ok (.iadd, 1) := by decide +kernel
theorem dX9_print_69 : decode cX9_print 69 = .ok (.aload_n 0, 1) := by decide +kernel
theorem dX9_print_70 : decode cX9_print 70 = .ok (.iload_n 1, 1) := by decide +kernel
theorem dX9_print_71 : decode cX9_print 71 = .ok (.bipush 10, 2) := by decide +kernel
theorem dX9_print_73 : decode cX9_print 73 = .ok (.invokevirtual 49, 3) := by decide +kernel
theorem dX9_print_76 : decode cX9_print 76 = .ok (.aload_n 0, 1) := by decide +kernel
theorem dX9_print_77 : decode cX9_print 77 = .ok (.iload_n 1, 1) := by decide +kernel
theorem dX9_print_78 : decode cX9_print 78 = .ok (.bipush 14, 2) := by decide +kernel
theorem dX9_print_80 : decode cX9_print 80 = .ok (.invokevirtual 49, 3) := by decide +kernel
theorem dX9_print_83 : decode cX9_print 83 = .ok (.isub, 1) := by decide +kernel
theorem dX9_print_84 : decode cX9_print 84 = .ok (.iload_n 2, 1) := by decide +kernel
theorem dX9_print_85 : decode cX9_print 85 = .ok (.imul, 1) := by decide +kernel
theorem dX9_print_86 : decode cX9_print 86 = .ok (.bipush 100, 2) := by decide +kernel
theorem dX9_print_88 : decode cX9_print 88 = .ok (.idiv, 1) := by decide +kernel
theorem dX9_print_89 : decode cX9_print 89 = .ok (.iadd, 1) := by decide +kernel
theorem dX9_print_90 : decode cX9_print 90 = .ok (.istore 4, 2) := by decide +kernel
theorem dX9_print_92 : decode cX9_print 92 = .ok (.aload_n 0, 1) := by decide +kernel
theorem dX9_print_93 : decode cX9_print 93 = .ok (.iload_n 1, 1) := by decide +kernel
theorem dX9_print_94 : decode cX9_print 94 = .ok (.bipush 13, 2) := by decide +kernel
theorem dX9_print_96 : decode cX9_print 96 = .ok (.invokevirtual 49, 3) := by decide +kernel
theorem dX9_print_99 : decode cX9_print 99 = .ok (.aload_n 0, 1) := by decide +kernel
theorem dX9_print_100 : decode cX9_print 100 = .ok (.iload_n 1, 1) := by decide +kernel
theorem dX9_print_101 : decode cX9_print 101 = .ok (.bipush 12, 2) := by decide +kernel
theorem dX9_print_103 : decode cX9_print 103 = .ok (.invokevirtual 49, 3) := by decide +kernel
theorem dX9_print_106 : decode cX9_print 106 = .ok (.iadd, 1) := by decide +kernel
theorem dX9_print_107 : decode cX9_print 107 = .ok (.istore 5, 2) := by decide +kernel
theorem dX9_print_109 : decode cX9_print 109 = .ok (.aload_n 0, 1) := by decide +kernel
theorem dX9_print_110 : decode cX9_print 110 = .ok (.iload_n 1, 1) := by decide +kernel
theorem dX9_print_111 : decode cX9_print 111 = .ok (.bipush 97, 2) := by decide +kernel
theorem dX9_print_113 : decode cX9_print 113 = .ok (.aload_n 0, 1) := by decide +kernel
theorem dX9_print_114 : decode cX9_print 114 = .ok (.getfield 9, 3) := by decide +kernel
theorem dX9_print_117 : decode cX9_print 117 = .ok (.sipush 1765, 3) := by decide +kernel
theorem dX9_print_120 : decode cX9_print 120 = .ok (.iaload, 1) := by decide +kernel
theorem dX9_print_121 : decode cX9_print 121 = .ok (.sipush 128, 3) := by decide +kernel
theorem dX9_print_124 : decode cX9_print 124 = .ok (.irem, 1) := by decide +kernel
theorem dX9_print_125 : decode cX9_print 125 = .ok (.iadd, 1) := by decide +kernel
theorem dX9_print_126 : decode cX9_print 126 = .ok (.iload 4, 2) := by decide +kernel
theorem dX9_print_128 : decode cX9_print 128 = .ok (.invokevirtual 41, 3) := by decide +kernel
theorem dX9_print_131 : decode cX9_print 131 = .ok (.aload_n 0, 1) := by decide +kernel
theorem dX9_print_132 : decode cX9_print 132 = .ok (.iload_n 1, 1) := by decide +kernel
theorem dX9_print_133 : decode cX9_print 133 = .ok (.sipush 225, 3) := by decide +kernel
theorem dX9_print_136 : decode cX9_print 136 = .ok (.aload_n 0, 1) := by decide +kernel
theorem dX9_print_137 : decode cX9_print 137 = .ok (.getfield 9, 3) := by decide +kernel
theorem dX9_print_140 : decode cX9_print 140 = .ok (.sipush 1765, 3) := by decide +kernel
theorem dX9_print_143 : decode cX9_print 143 = .ok (.iaload, 1) := by decide +kernel
theorem dX9_print_144 : decode cX9_print 144 = .ok (.sipush 128, 3) := by decide +kernel
theorem dX9_print_147 : decode cX9_print 147 = .ok (.irem, 1) := by decide +kernel
theorem dX9_print_148 : decode cX9_print 148 = .ok (.iadd, 1) := by decide +kernel
theorem dX9_print_149 : decode cX9_print 149 = .ok (.iload 5, 2) := by decide +kernel
theorem dX9_print_151 : decode cX9_print 151 = .ok (.invokevirtual 41, 3) := by decide +kernel
theorem dX9_print_154 : decode cX9_print 154 = .ok (.aload_n 0, 1) := by decide +kernel
theorem dX9_print_155 : decode cX9_print 155 = .ok (.iload_n 1, 1) := by decide +kernel
theorem dX9_print_156 : decode cX9_print 156 = .ok (.bipush 29, 2) := by decide +kernel
theorem dX9_print_158 : decode cX9_print 158 = .ok (.iload 4, 2) := by decide +kernel
theorem dX9_print_160 : decode cX9_print 160 = .ok (.invokevirtual 41, 3) := by decide +kernel
theorem dX9_print_163 : decode cX9_print 163 = .ok (.aload_n 0, 1) := by decide +kernel
theorem dX9_print_164 : decode cX9_print 164 = .ok (.iload_n 1, 1) := by decide +kernel
theorem dX9_print_165 : decode cX9_print 165 = .ok (.bipush 30, 2) := by decide +kernel
theorem dX9_print_167 : decode cX9_print 167 = .ok (.iload 5, 2) := by decide +kernel
theorem dX9_print_169 : decode cX9_print 169 = .ok (.invokevirtual 41, 3) := by decide +kernel
theorem dX9_print_172 : decode cX9_print 172 = .ok (.iconst 2, 1) := by decide +kernel
theorem dX9_print_173 : decode cX9_print 173 = .ok (.istore 6, 2) := by decide +kernel
theorem dX9_print_175 : decode cX9_print 175 = .ok (.iload 6, 2) := by decide +kernel
theorem dX9_print_177 : decode cX9_print 177 = .ok (.bipush 6, 2) := by decide +kernel
theorem dX9_print_179 : decode cX9_print 179 = .ok (.if_icmp .gt 21, 3) := by decide +kernel
theorem dX9_print_182 : decode cX9_print 182 = .ok (.aload_n 0, 1) := by decide +kernel
theorem dX9_print_183 : decode cX9_print 183 = .ok (.iload_n 1, 1) := by decide +kernel
theorem dX9_print_184 : decode cX9_print 184 = .ok (.bipush 29, 2) := by decide +kernel
theorem dX9_print_186 : decode cX9_print 186 = .ok (.iload 6, 2) := by decide +kernel
theorem dX9_print_188 : decode cX9_print 188 = .ok (.iadd, 1) := by decide +kernel
theorem dX9_print_189 : decode cX9_print 189 = .ok (.ldc 75, 2) := by decide +kernel
theorem dX9_print_191 : decode cX9_print 191 = .ok (.invokevirtual 41, 3) := by decide +kernel
theorem dX9_print_194 : decode cX9_print 194 = .ok (.iinc 6 1, 3) := by decide +kernel
theorem dX9_print_197 : decode cX9_print 197 = .ok (.goto (-22), 3) := by decide +kernel
theorem dX9_print_200 : decode cX9_print 200 = .ok (.return_, 1) := by decide +kernel
theorem dX9_isSeen_0 : decode cX9_isSeen 0 = .ok (.iload_n 1, 1) := by decide +kernel
theorem dX9_isSeen_1 : decode cX9_isSeen 1 = .ok (.ifCond .le 30, 3) := by decide +kernel
theorem dX9_isSeen_4 : decode cX9_isSeen 4 = .ok (.aload_n 0, 1) := by decide +kernel
theorem dX9_isSeen_5 : decode cX9_isSeen 5 = .ok (.getfield 9, 3) := by decide +kernel
theorem dX9_isSeen_8 : decode cX9_isSeen 8 = .ok (.sipush 1765, 3) := by decide +kernel
theorem dX9_isSeen_11 : decode cX9_isSeen 11 = .ok (.iaload, 1) := by decide +kernel
theorem dX9_isSeen_12 : decode cX9_isSeen 12 = .ok (.aload_n 0, 1) := by decide +kernel
theorem dX9_isSeen_13 : decode cX9_isSeen 13 = .ok (.iload_n 1, 1) := by decide +kernel
theorem dX9_isSeen_14 : decode cX9_isSeen 14 = .ok (.iconst 1, 1) := by decide +kernel
theorem dX9_isSeen_15 : decode cX9_isSeen 15 = .ok (.invokevirtual 49, 3) := by decide +kernel
theorem dX9_isSeen_18 : decode cX9_isSeen 18 = .ok (.aload_n 0, 1) := by decide +kernel
theorem dX9_isSeen_19 : decode cX9_isSeen 19 = .ok (.iload_n 1, 1) := by decide +kernel
theorem dX9_isSeen_20 : decode cX9_isSeen 20 = .ok (.invokevirtual 69, 3) := by decide +kernel
theorem dX9_isSeen_23 : decode cX9_isSeen 23 = .ok (.iadd, 1) := by decide +kernel
theorem dX9_isSeen_24 : decode cX9_isSeen 24 = .ok (.if_icmp .lt 7, 3) := by decide +kernel
theorem dX9_isSeen_27 : decode cX9_isSeen 27 = .ok (.iconst 1, 1) := by decide +kernel
theorem dX9_isSeen_28 : decode cX9_isSeen 28 = .ok (.goto 4, 3) := by decide +kernel
theorem dX9_isSeen_31 : decode cX9_isSeen 31 = .ok (.iconst 0, 1) := by decide +kernel
theorem dX9_isSeen_32 : decode cX9_isSeen 32 = .ok (.ireturn, 1) := by decide +kernel
theorem dX9_keepError_0 : decode cX9_keepError 0 = .ok (.aload_n 0, 1) := by decide +kernel
theorem dX9_keepError_1 : decode cX9_keepError 1 = .ok (.iload_n 1, 1) := by decide +kernel
theorem dX9_keepError_2 : decode cX9_keepError 2 = .ok (.bipush 37, 2) := by decide +kernel
theorem dX9_keepError_4 : decode cX9_keepError 4 = .ok (.aload_n 0, 1) := by decide +kernel
theorem dX9_keepError_5 : decode cX9_keepError 5 = .ok (.iload_n 1, 1) := by decide +kernel
theorem dX9_keepError_6 : decode cX9_keepError 6 = .ok (.bipush 36, 2) := by decide +kernel
theorem dX9_keepError_8 : decode cX9_keepError 8 = .ok (.invokevirtual 49, 3) := by decide +kernel
theorem dX9_keepError_11 : decode cX9_keepError 11 = .ok (.bipush 60, 2) := by decide +kernel
theorem dX9_keepError_13 : decode cX9_keepError 13 = .ok (.irem, 1) := by decide +kernel
theorem dX9_keepError_14 : decode cX9_keepError 14 = .ok (.iadd, 1) := by decide +kernel
theorem dX9_keepError_15 : decode cX9_keepError 15 = .ok (.iload_n 2, 1) := by decide +kernel
theorem dX9_keepError_16 : decode cX9_keepError 16 = .ok (.invokevirtual 41, 3) := by decide +kernel
theorem dX9_keepError_19 : decode cX9_keepError 19 = .ok (.aload_n 0, 1) := by decide +kernel
theorem dX9_keepError_20 : decode cX9_keepError 20 = .ok (.iload_n 1, 1) := by decide +kernel
theorem dX9_keepError_21 : decode cX9_keepError 21 = .ok (.bipush 36, 2) := by decide +kernel
theorem dX9_keepError_23 : decode cX9_keepError 23 = .ok (.aload_n 0, 1) := by decide +kernel
theorem dX9_keepError_24 : decode cX9_keepError 24 = .ok (.iload_n 1, 1) := by decide +kernel
theorem dX9_keepError_25 : decode cX9_keepError 25 = .ok (.bipush 36, 2) := by decide +kernel
theorem dX9_keepError_27 : decode cX9_keepError 27 = .ok (.invokevirtual 49, 3) := by decide +kernel
theorem dX9_keepError_30 : decode cX9_keepError 30 = .ok (.iconst 1, 1) := by decide +kernel
theorem dX9_keepError_31 : decode cX9_keepError 31 = .ok (.iadd, 1) := by decide +kernel
theorem dX9_keepError_32 : decode cX9_keepError 32 = .ok (.invokevirtual 41, 3) := by decide +kernel
theorem dX9_keepError_35 : decode cX9_keepError 35 = .ok (.return_, 1) := by decide +kernel
theorem dX9_see_0 : decode cX9_see 0 = .ok (.aload_n 0, 1) := by decide +kernel
theorem dX9_see_1 : decode cX9_see 1 = .ok (.getfield 9, 3) := by decide +kernel
theorem dX9_see_4 : decode cX9_see 4 = .ok (.sipush 1765, 3) := by decide +kernel
theorem dX9_see_7 : decode cX9_see 7 = .ok (.iaload, 1) := by decide +kernel
theorem dX9_see_8 : decode cX9_see 8 = .ok (.aload_n 0, 1) := by decide +kernel
theorem dX9_see_9 : decode cX9_see 9 = .ok (.iload_n 1, 1) := by decide +kernel
theorem dX9_see_10 : decode cX9_see 10 = .ok (.iconst 1, 1) := by decide +kernel
theorem dX9_see_11 : decode cX9_see 11 = .ok (.invokevirtual 49, 3) := by decide +kernel
theorem dX9_see_14 : decode cX9_see 14 = .ok (.isub, 1) := by decide +kernel
theorem dX9_see_15 : decode cX9_see 15 = .ok (.istore_n 2, 1) := by decide +kernel
theorem dX9_see_16 : decode cX9_see 16 = .ok (.aload_n 0, 1) := by decide +kernel
theorem dX9_see_17 : decode cX9_see 17 = .ok (.iload_n 1, 1) := by decide +kernel
theorem dX9_see_18 : decode cX9_see 18 = .ok (.bipush 97, 2) := by decide +kernel
theorem dX9_see_20 : decode cX9_see 20 = .ok (.iload_n 2, 1) := by decide +kernel
theorem dX9_see_21 : decode cX9_see 21 = .ok (.sipush 128, 3) := by decide +kernel
theorem dX9_see_24 : decode cX9_see 24 = .ok (.irem, 1) := by decide +kernel
theorem dX9_see_25 : decode cX9_see 25 = .ok (.iadd, 1) := by decide +kernel
theorem dX9_see_26 : decode cX9_see 26 = .ok (.invokevirtual 49, 3) := by decide +kernel
theorem dX9_see_29 : decode cX9_see 29 = .ok (.aload_n 0, 1) := by decide +kernel
theorem dX9_see_30 : decode cX9_see 30 = .ok (.getfield 9, 3) := by decide +kernel
theorem dX9_see_33 : decode cX9_see 33 = .ok (.iconst 0, 1) := by decide +kernel
theorem dX9_see_34 : decode cX9_see 34 = .ok (.bipush 97, 2) := by decide +kernel
theorem dX9_see_36 : decode cX9_see 36 = .ok (.invokestatic 33, 3) := by decide +kernel
theorem dX9_see_39 : decode cX9_see 39 = .ok (.iload_n 2, 1) := by decide +kernel
theorem dX9_see_40 : decode cX9_see 40 = .ok (.aload_n 0, 1) := by decide +kernel
theorem dX9_see_41 : decode cX9_see 41 = .ok (.iload_n 1, 1) := by decide +kernel
theorem dX9_see_42 : decode cX9_see 42 = .ok (.invokevirtual 69, 3) := by decide +kernel
theorem dX9_see_45 : decode cX9_see 45 = .ok (.isub, 1) := by decide +kernel
theorem dX9_see_46 : decode cX9_see 46 = .ok (.sipush 128, 3) := by decide +kernel
theorem dX9_see_49 : decode cX9_see 49 = .ok (.irem, 1) := by decide +kernel
theorem dX9_see_50 : decode cX9_see 50 = .ok (.iadd, 1) := by decide +kernel
theorem dX9_see_51 : decode cX9_see 51 = .ok (.iaload, 1) := by decide +kernel
theorem dX9_see_52 : decode cX9_see 52 = .ok (.isub, 1) := by decide +kernel
theorem dX9_see_53 : decode cX9_see 53 = .ok (.istore_n 3, 1) := by decide +kernel
theorem dX9_see_54 : decode cX9_see 54 = .ok (.aload_n 0, 1) := by decide +kernel
theorem dX9_see_55 : decode cX9_see 55 = .ok (.iload_n 1, 1) := by decide +kernel
theorem dX9_see_56 : decode cX9_see 56 = .ok (.bipush 31, 2) := by decide +kernel
theorem dX9_see_58 : decode cX9_see 58 = .ok (.iload_n 3, 1) := by decide +kernel
theorem dX9_see_59 : decode cX9_see 59 = .ok (.invokevirtual 41, 3) := by decide +kernel
theorem dX9_see_62 : decode cX9_see 62 = .ok (.aload_n 0, 1) := by decide +kernel
theorem dX9_see_63 : decode cX9_see 63 = .ok (.iload_n 1, 1) := by decide +kernel
theorem dX9_see_64 : decode cX9_see 64 = .ok (.bipush 32, 2) := by decide +kernel
theorem dX9_see_66 : decode cX9_see 66 = .ok (.aload_n 0, 1) := by decide +kernel
theorem dX9_see_67 : decode cX9_see 67 = .ok (.iload_n 1, 1) := by decide +kernel
theorem dX9_see_68 : decode cX9_see 68 = .ok (.sipush 225, 3) := by decide +kernel
theorem dX9_see_71 : decode cX9_see 71 = .ok (.iload_n 2, 1) := by decide +kernel
theorem dX9_see_72 : decode cX9_see 72 = .ok (.sipush 128, 3) := by decide +kernel
theorem dX9_see_75 : decode cX9_see 75 = .ok (.irem, 1) := by decide +kernel
theorem dX9_see_76 : decode cX9_see 76 = .ok (.iadd, 1) := by decide +kernel
theorem dX9_see_77 : decode cX9_see 77 = .ok (.invokevirtual 49, 3) := by decide +kernel
theorem dX9_see_80 : decode cX9_see 80 = .ok (.invokevirtual 41, 3) := by decide +kernel
theorem dX9_see_83 : decode cX9_see 83 = .ok (.aload_n 0, 1) := by decide +kernel
theorem dX9_see_84 : decode cX9_see 84 = .ok (.iload_n 1, 1) := by decide +kernel
theorem dX9_see_85 : decode cX9_see 85 = .ok (.iload_n 3, 1) := by decide +kernel
theorem dX9_see_86 : decode cX9_see 86 = .ok (.invokevirtual 76, 3) := by decide +kernel
theorem dX9_see_89 : decode cX9_see 89 = .ok (.return_, 1) := by decide +kernel
theorem dX9_recognized_0 : decode cX9_recognized 0 = .ok (.aload_n 0, 1) := by decide +kernel
theorem dX9_recognized_1 : decode cX9_recognized 1 = .ok (.iload_n 1, 1) := by decide +kernel
theorem dX9_recognized_2 : decode cX9_recognized 2 = .ok (.bipush 17, 2) := by decide +kernel
theorem dX9_recognized_4 : decode cX9_recognized 4 = .ok (.invokevirtual 49, 3) := by decide +kernel
theorem dX9_recognized_7 : decode cX9_recognized 7 = .ok (.aload_n 0, 1) := by decide +kernel
theorem dX9_recognized_8 : decode cX9_recognized 8 = .ok (.iload_n 1, 1) := by decide +kernel
theorem dX9_recognized_9 : decode cX9_recognized 9 = .ok (.iconst 3, 1) := by decide +kernel
theorem dX9_recognized_10 : decode cX9_recognized 10 = .ok (.invokevirtual 49, 3) := by decide +kernel
theorem dX9_recognized_13 : decode cX9_recognized 13 = .ok (.if_icmp .ge 13, 3) := by decide +kernel
theorem dX9_recognized_16 : decode cX9_recognized 16 = .ok (.aload_n 0, 1) := by decide +kernel
theorem dX9_recognized_17 : decode cX9_recognized 17 = .ok (.iload_n 1, 1) := by decide +kernel
theorem dX9_recognized_18 : decode cX9_recognized 18 = .ok (.bipush 18, 2) := by decide +kernel
theorem dX9_recognized_20 : decode cX9_recognized 20 = .ok (.invokevirtual 49, 3) := by decide +kernel
theorem dX9_recognized_23 : decode cX9_recognized 23 = .ok (.ifCond .le 7, 3) := by decide +kernel
theorem dX9_recognized_26 : decode cX9_recognized 26 = .ok (.iconst 1, 1) := by decide +kernel
theorem dX9_recognized_27 : decode cX9_recognized 27 = .ok (.goto 4, 3) := by decide +kernel
theorem dX9_recognized_30 : decode cX9_recognized 30 = .ok (.iconst 0, 1) := by decide +kernel
theorem dX9_recognized_31 : decode cX9_recognized 31 = .ok (.istore_n 2, 1) := by decide +kernel
theorem dX9_recognized_32 : decode cX9_recognized 32 = .ok (.aload_n 0, 1) := by decide +kernel
theorem dX9_recognized_33 : decode cX9_recognized 33 = .ok (.iload_n 1, 1) := by decide +kernel
theorem dX9_recognized_34 : decode cX9_recognized 34 = .ok (.iconst 2, 1) := by decide +kernel
theorem dX9_recognized_35 : decode cX9_recognized 35 = .ok (.invokevirtual 49, 3) := by decide +kernel
theorem dX9_recognized_38 : decode cX9_recognized 38 = .ok (.iload_n 2, 1) := by decide +kernel
theorem dX9_recognized_39 : decode cX9_recognized 39 = .ok (.ifCond .eq 7, 3) := by decide +kernel
theorem dX9_recognized_42 : decode cX9_recognized 42 = .ok (.iconst 4, 1) := by decide +kernel
theorem dX9_recognized_43 : decode cX9_recognized 43 = .ok (.goto 4, 3) := by decide +kernel
theorem dX9_recognized_46 : decode cX9_recognized 46 = .ok (.iconst 1, 1) := by decide +kernel
theorem dX9_recognized_47 : decode cX9_recognized 47 = .ok (.imul, 1) := by decide +kernel
theorem dX9_recognized_48 : decode cX9_recognized 48 = .ok (.istore_n 3, 1) := by decide +kernel
theorem dX9_recognized_49 : decode cX9_recognized 49 = .ok (.aload_n 0, 1) := by decide +kernel
theorem dX9_recognized_50 : decode cX9_recognized 50 = .ok (.iload_n 1, 1) := by decide +kernel
theorem dX9_recognized_51 : decode cX9_recognized 51 = .ok (.bipush 31, 2) := by decide +kernel
theorem dX9_recognized_53 : decode cX9_recognized 53 = .ok (.invokevirtual 49, 3) := by decide +kernel
theorem dX9_recognized_56 : decode cX9_recognized 56 = .ok (.aload_n 0, 1) := by decide +kernel
theorem dX9_recognized_57 : decode cX9_recognized 57 = .ok (.iload_n 1, 1) := by decide +kernel
theorem dX9_recognized_58 : decode cX9_recognized 58 = .ok (.bipush 19, 2) := by decide +kernel
theorem dX9_recognized_60 : decode cX9_recognized 60 = .ok (.invokevirtual 49, 3) := by decide +kernel
theorem dX9_recognized_63 : decode cX9_recognized 63 = .ok (.isub, 1) := by decide +kernel
theorem dX9_recognized_64 : decode cX9_recognized 64 = .ok (.invokestatic 80, 3) := by decide +kernel
theorem dX9_recognized_67 : decode cX9_recognized 67 = .ok (.istore 4, 2) := by decide +kernel
theorem dX9_recognized_69 : decode cX9_recognized 69 = .ok (.aload_n 0, 1) := by decide +kernel
theorem dX9_recognized_70 : decode cX9_recognized 70 = .ok (.iload_n 1, 1) := by decide +kernel
theorem dX9_recognized_71 : decode cX9_recognized 71 = .ok (.bipush 25, 2) := by decide +kernel
theorem dX9_recognized_73 : decode cX9_recognized 73 = .ok (.invokevirtual 49, 3) := by decide +kernel
theorem dX9_recognized_76 : decode cX9_recognized 76 = .ok (.aload_n 0, 1) := by decide +kernel
theorem dX9_recognized_77 : decode cX9_recognized 77 = .ok (.iload_n 1, 1) := by decide +kernel
theorem dX9_recognized_78 : decode cX9_recognized 78 = .ok (.bipush 19, 2) := by decide +kernel
theorem dX9_recognized_80 : decode cX9_recognized 80 = .ok (.invokevirtual 49, 3) := by decide +kernel
theorem dX9_recognized_83 : decode cX9_recognized 83 = .ok (.isub, 1) := by decide +kernel
theorem dX9_recognized_84 : decode cX9_recognized 84 = .ok (.invokestatic 80, 3) := by decide +kernel
theorem dX9_recognized_87 : decode cX9_recognized 87 = .ok (.istore 5, 2) := by decide +kernel
theorem dX9_recognized_89 : decode cX9_recognized 89 = .ok (.aload_n 0, 1) := by decide +kernel
theorem dX9_recognized_90 : decode cX9_recognized 90 = .ok (.iload_n 1, 1) := by decide +kernel
theorem dX9_recognized_91 : decode cX9_recognized 91 = .ok (.bipush 24, 2) := by decide +kernel
theorem dX9_recognized_93 : decode cX9_recognized 93 = .ok (.invokevirtual 49, 3) := by decide +kernel
theorem dX9_recognized_96 : decode cX9_recognized 96 = .ok (.ifCond .ne 13, 3) := by decide +kernel
theorem dX9_recognized_99 : decode cX9_recognized 99 = .ok (.iload 4, 2) := by decide +kernel
theorem dX9_recognized_101 : decode cX9_recognized 101 = .ok (.iload_n 3, 1) := by decide +kernel
theorem dX9_recognized_102 : decode cX9_recognized 102 = .ok (.if_icmp .gt 7, 3) := by decide +kernel
theorem dX9_recognized_105 : decode cX9_recognized 105 = .ok (.iconst 1, 1) := by decide +kernel
theorem dX9_recognized_106 : decode cX9_recognized 106 = .ok (.goto 4, 3) := by decide +kernel
theorem dX9_recognized_109 : decode cX9_recognized 109 = .ok (.iconst 0, 1) := by decide +kernel
theorem dX9_recognized_110 : decode cX9_recognized 110 = .ok (.istore 6, 2) := by decide +kernel
theorem dX9_recognized_112 : decode cX9_recognized 112 = .ok (.aload_n 0, 1) := by decide +kernel
theorem dX9_recognized_113 : decode cX9_recognized 113 = .ok (.iload_n 1, 1) := by decide +kernel
theorem dX9_recognized_114 : decode cX9_recognized 114 = .ok (.bipush 26, 2) := by decide +kernel
theorem dX9_recognized_116 : decode cX9_recognized 116 = .ok (.invokevirtual 49, 3) := by decide +kernel
theorem dX9_recognized_119 : decode cX9_recognized 119 = .ok (.ifCond .le 13, 3) := by decide +kernel
theorem dX9_recognized_122 : decode cX9_recognized 122 = .ok (.iload 5, 2) := by decide +kernel
theorem dX9_recognized_124 : decode cX9_recognized 124 = .ok (.iload_n 3, 1) := by decide +kernel
theorem dX9_recognized_125 : decode cX9_recognized 125 = .ok (.if_icmp .gt 7, 3) := by decide +kernel
theorem dX9_recognized_128 : decode cX9_recognized 128 = .ok (.iconst 1, 1) := by decide +kernel
theorem dX9_recognized_129 : decode cX9_recognized 129 = .ok (.goto 4, 3) := by decide +kernel
theorem dX9_recognized_132 : decode cX9_recognized 132 = .ok (.iconst 0, 1) := by decide +kernel
theorem dX9_recognized_133 : decode cX9_recognized 133 = .ok (.istore 7, 2) := by decide +kernel
theorem dX9_recognized_135 : decode cX9_recognized 135 = .ok (.iload 6, 2) := by decide +kernel
theorem dX9_recognized_137 : decode cX9_recognized 137 = .ok (.ifCond .eq 17, 3) := by decide +kernel
theorem dX9_recognized_140 : decode cX9_recognized 140 = .ok (.iload 7, 2) := by decide +kernel
theorem dX9_recognized_142 : decode cX9_recognized 142 = .ok (.ifCond .eq 10, 3) := by decide +kernel
theorem dX9_recognized_145 : decode cX9_recognized 145 = .ok (.iload 4, 2) := by decide +kernel
theorem dX9_recognized_147 : decode cX9_recognized 147 = .ok (.iload 5, 2) := by decide +kernel
theorem dX9_recognized_149 : decode cX9_recognized 149 = .ok (.if_icmp .gt 5, 3) := by decide +kernel
theorem dX9_recognized_152 : decode cX9_recognized 152 = .ok (.iconst 1, 1) := by decide +kernel
theorem dX9_recognized_153 : decode cX9_recognized 153 = .ok (.ireturn, 1) := by decide +kernel
theorem dX9_recognized_154 : decode cX9_recognized 154 = .ok (.iload 7, 2) := by decide +kernel
theorem dX9_recognized_156 : decode cX9_recognized 156 = .ok (.ifCond .eq 7, 3) := by decide +kernel
theorem dX9_recognized_159 : decode cX9_recognized 159 = .ok (.iconst 2, 1) := by decide +kernel
theorem dX9_recognized_160 : decode cX9_recognized 160 = .ok (.goto 4, 3) := by decide +kernel
theorem dX9_recognized_163 : decode cX9_recognized 163 = .ok (.iconst 0, 1) := by decide +kernel
theorem dX9_recognized_164 : decode cX9_recognized 164 = .ok (.ireturn, 1) := by decide +kernel
theorem dX9_recognize_0 : decode cX9_recognize 0 = .ok (.aload_n 0, 1) := by decide +kernel
theorem dX9_recognize_1 : decode cX9_recognize 1 = .ok (.iload_n 1, 1) := by decide +kernel
theorem dX9_recognize_2 : decode cX9_recognize 2 = .ok (.invokevirtual 83, 3) := by decide +kernel
theorem dX9_recognize_5 : decode cX9_recognize 5 = .ok (.istore_n 2, 1) := by decide +kernel
theorem dX9_recognize_6 : decode cX9_recognize 6 = .ok (.aload_n 0, 1) := by decide +kernel
theorem dX9_recognize_7 : decode cX9_recognize 7 = .ok (.iload_n 1, 1) := by decide +kernel
theorem dX9_recognize_8 : decode cX9_recognize 8 = .ok (.bipush 33, 2) := by decide +kernel
theorem dX9_recognize_10 : decode cX9_recognize 10 = .ok (.iload_n 2, 1) := by decide +kernel
theorem dX9_recognize_11 : decode cX9_recognize 11 = .ok (.invokevirtual 41, 3) := by decide +kernel
theorem dX9_recognize_14 : decode cX9_recognize 14 = .ok (.aload_n 0, 1) := by decide +kernel
theorem dX9_recognize_15 : decode cX9_recognize 15 = .ok (.iconst 0, 1) := by decide +kernel
theorem dX9_recognize_16 : decode cX9_recognize 16 = .ok (.iload_n 2, 1) := by decide +kernel
theorem dX9_recognize_17 : decode cX9_recognize 17 = .ok (.ifCond .le 7, 3) := by decide +kernel
theorem dX9_recognize_20 : decode cX9_recognize 20 = .ok (.iconst 1, 1) := by decide +kernel
theorem dX9_recognize_21 : decode cX9_recognize 21 = .ok (.goto 4, 3) := by decide +kernel
theorem dX9_recognize_24 : decode cX9_recognize 24 = .ok (.iconst 0, 1) := by decide +kernel
theorem dX9_recognize_25 : decode cX9_recognize 25 = .ok (.invokevirtual 86, 3) := by decide +kernel
theorem dX9_recognize_28 : decode cX9_recognize 28 = .ok (.aload_n 0, 1) := by decide +kernel
theorem dX9_recognize_29 : decode cX9_recognize 29 = .ok (.iconst 1, 1) := by decide +kernel
theorem dX9_recognize_30 : decode cX9_recognize 30 = .ok (.iload_n 2, 1) := by decide +kernel
theorem dX9_recognize_31 : decode cX9_recognize 31 = .ok (.iconst 2, 1) := by decide +kernel
theorem dX9_recognize_32 : decode cX9_recognize 32 = .ok (.if_icmp .ne 7, 3) := by decide +kernel
theorem dX9_recognize_35 : decode cX9_recognize 35 = .ok (.iconst 1, 1) := by decide +kernel
theorem dX9_recognize_36 : decode cX9_recognize 36 = .ok (.goto 4, 3) := by decide +kernel
theorem dX9_recognize_39 : decode cX9_recognize 39 = .ok (.iconst 0, 1) := by decide +kernel
theorem dX9_recognize_40 : decode cX9_recognize 40 = .ok (.invokevirtual 86, 3) := by decide +kernel
theorem dX9_recognize_43 : decode cX9_recognize 43 = .ok (.aload_n 0, 1) := by decide +kernel
theorem dX9_recognize_44 : decode cX9_recognize 44 = .ok (.iconst 2, 1) := by decide +kernel
theorem dX9_recognize_45 : decode cX9_recognize 45 = .ok (.iload_n 2, 1) := by decide +kernel
theorem dX9_recognize_46 : decode cX9_recognize 46 = .ok (.ifCond .ne 7, 3) := by decide +kernel
theorem dX9_recognize_49 : decode cX9_recognize 49 = .ok (.iconst 1, 1) := by decide +kernel
theorem dX9_recognize_50 : decode cX9_recognize 50 = .ok (.goto 4, 3) := by decide +kernel
theorem dX9_recognize_53 : decode cX9_recognize 53 = .ok (.iconst 0, 1) := by decide +kernel
theorem dX9_recognize_54 : decode cX9_recognize 54 = .ok (.invokevirtual 86, 3) := by decide +kernel
theorem dX9_recognize_57 : decode cX9_recognize 57 = .ok (.iload_n 2, 1) := by decide +kernel
theorem dX9_recognize_58 : decode cX9_recognize 58 = .ok (.ifCond .ne 20, 3) := by decide +kernel
theorem dX9_recognize_61 : decode cX9_recognize 61 = .ok (.aload_n 0, 1) := by decide +kernel
theorem dX9_recognize_62 : decode cX9_recognize 62 = .ok (.iload_n 1, 1) := by decide +kernel
theorem dX9_recognize_63 : decode cX9_recognize 63 = .ok (.bipush 17, 2) := by decide +kernel
theorem dX9_recognize_65 : decode cX9_recognize 65 = .ok (.aload_n 0, 1) := by decide +kernel
theorem dX9_recognize_66 : decode cX9_recognize 66 = .ok (.iload_n 1, 1) := by decide +kernel
theorem dX9_recognize_67 : decode cX9_recognize 67 = .ok (.bipush 17, 2) := by decide +kernel
theorem dX9_recognize_69 : decode cX9_recognize 69 = .ok (.invokevirtual 49, 3) := by decide +kernel
theorem dX9_recognize_72 : decode cX9_recognize 72 = .ok (.iconst 1, 1) := by decide +kernel
theorem dX9_recognize_73 : decode cX9_recognize 73 = .ok (.iadd, 1) := by decide +kernel
theorem dX9_recognize_74 : decode cX9_recognize 74 = .ok (.invokevirtual 41, 3) := by decide +kernel
theorem dX9_recognize_77 : decode cX9_recognize 77 = .ok (.return_, 1) := by decide +kernel
theorem dX9_recognize_78 : decode cX9_recognize 78 = .ok (.aload_n 0, 1) := by decide +kernel
theorem dX9_recognize_79 : decode cX9_recognize 79 = .ok (.iload_n 1, 1) := by decide +kernel
theorem dX9_recognize_80 : decode cX9_recognize 80 = .ok (.bipush 17, 2) := by decide +kernel
theorem dX9_recognize_82 : decode cX9_recognize 82 = .ok (.iconst 0, 1) := by decide +kernel
theorem dX9_recognize_83 : decode cX9_recognize 83 = .ok (.invokevirtual 41, 3) := by decide +kernel
theorem dX9_recognize_86 : decode cX9_recognize 86 = .ok (.aload_n 0, 1) := by decide +kernel
theorem dX9_recognize_87 : decode cX9_recognize 87 = .ok (.iload_n 1, 1) := by decide +kernel
theorem dX9_recognize_88 : decode cX9_recognize 88 = .ok (.bipush 34, 2) := by decide +kernel
theorem dX9_recognize_90 : decode cX9_recognize 90 = .ok (.iload_n 2, 1) := by decide +kernel
theorem dX9_recognize_91 : decode cX9_recognize 91 = .ok (.iconst 1, 1) := by decide +kernel
theorem dX9_recognize_92 : decode cX9_recognize 92 = .ok (.if_icmp .ne 13, 3) := by decide +kernel
theorem dX9_recognize_95 : decode cX9_recognize 95 = .ok (.aload_n 0, 1) := by decide +kernel
theorem dX9_recognize_96 : decode cX9_recognize 96 = .ok (.iload_n 1, 1) := by decide +kernel
theorem dX9_recognize_97 : decode cX9_recognize 97 = .ok (.bipush 31, 2) := by decide +kernel
theorem dX9_recognize_99 : decode cX9_recognize 99 = .ok (.invokevirtual 49, 3) := by decide +kernel
theorem dX9_recognize_102 : decode cX9_recognize 102 = .ok (.goto 10, 3) := by decide +kernel
theorem dX9_recognize_105 : decode cX9_recognize 105 = .ok (.aload_n 0, 1) := by decide +kernel
theorem dX9_recognize_106 : decode cX9_recognize 106 = .ok (.iload_n 1, 1) := by decide +kernel
theorem dX9_recognize_107 : decode cX9_recognize 107 = .ok (.bipush 25, 2) := by decide +kernel
theorem dX9_recognize_109 : decode cX9_recognize 109 = .ok (.invokevirtual 49, 3) := by decide +kernel
theorem dX9_recognize_112 : decode cX9_recognize 112 = .ok (.invokevirtual 41, 3) := by decide +kernel
theorem dX9_recognize_115 : decode cX9_recognize 115 = .ok (.aload_n 0, 1) := by decide +kernel
theorem dX9_recognize_116 : decode cX9_recognize 116 = .ok (.iload_n 1, 1) := by decide +kernel
theorem dX9_recognize_117 : decode cX9_recognize 117 = .ok (.bipush 35, 2) := by decide +kernel
theorem dX9_recognize_119 : decode cX9_recognize 119 = .ok (.iload_n 2, 1) := by decide +kernel
theorem dX9_recognize_120 : decode cX9_recognize 120 = .ok (.iconst 1, 1) := by decide +kernel
theorem dX9_recognize_121 : decode cX9_recognize 121 = .ok (.if_icmp .ne 13, 3) := by decide +kernel
theorem dX9_recognize_124 : decode cX9_recognize 124 = .ok (.aload_n 0, 1) := by decide +kernel
theorem dX9_recognize_125 : decode cX9_recognize 125 = .ok (.iload_n 1, 1) := by decide +kernel
theorem dX9_recognize_126 : decode cX9_recognize 126 = .ok (.bipush 32, 2) := by decide +kernel
theorem dX9_recognize_128 : decode cX9_recognize 128 = .ok (.invokevirtual 49, 3) := by decide +kernel
theorem dX9_recognize_131 : decode cX9_recognize 131 = .ok (.goto 10, 3) := by decide +kernel
theorem dX9_recognize_134 : decode cX9_recognize 134 = .ok (.aload_n 0, 1) := by decide +kernel
theorem dX9_recognize_135 : decode cX9_recognize 135 = .ok (.iload_n 1, 1) := by decide +kernel
theorem dX9_recognize_136 : decode cX9_recognize 136 = .ok (.bipush 20, 2) := by decide +kernel
theorem dX9_recognize_138 : decode cX9_recognize 138 = .ok (.invokevirtual 49, 3) := by decide +kernel
theorem dX9_recognize_141 : decode cX9_recognize 141 = .ok (.invokevirtual 41, 3) := by decide +kernel
theorem dX9_recognize_144 : decode cX9_recognize 144 = .ok (.return_, 1) := by decide +kernel
theorem dX9_isRecognized_0 : decode cX9_isRecognized 0 = .ok (.aload_n 0, 1) := by decide +kernel
theorem dX9_isRecognized_1 : decode cX9_isRecognized 1 = .ok (.iload_n 1, 1) := by decide +kernel
theorem dX9_isRecognized_2 : decode cX9_isRecognized 2 = .ok (.invokevirtual 90, 3) := by decide +kernel
theorem dX9_isRecognized_5 : decode cX9_isRecognized 5 = .ok (.ifCond .eq 17, 3) := by decide +kernel
theorem dX9_isRecognized_8 : decode cX9_isRecognized 8 = .ok (.aload_n 0, 1) := by decide +kernel
theorem dX9_isRecognized_9 : decode cX9_isRecognized 9 = .ok (.iload_n 1, 1) := by decide +kernel
theorem dX9_isRecognized_10 : decode cX9_isRecognized 10 = .ok (.bipush 33, 2) := by decide +kernel
theorem dX9_isRecognized_12 : decode cX9_isRecognized 12 = .ok (.invokevirtual 49, 3) := by decide +kernel
theorem dX9_isRecognized_15 : decode cX9_isRecognized 15 = .ok (.ifCond .le 7, 3) := by decide +kernel
theorem dX9_isRecognized_18 : decode cX9_isRecognized 18 = .ok (.iconst 1, 1) := by decide +kernel
theorem dX9_isRecognized_19 : decode cX9_isRecognized 19 = .ok (.goto 4, 3) := by decide +kernel
theorem dX9_isRecognized_22 : decode cX9_isRecognized 22 = .ok (.iconst 0, 1) := by decide +kernel
theorem dX9_isRecognized_23 : decode cX9_isRecognized 23 = .ok (.ireturn, 1) := by decide +kernel
theorem dX9_learn_0 : decode cX9_learn 0 = .ok (.aload_n 0, 1) := by decide +kernel
theorem dX9_learn_1 : decode cX9_learn 1 = .ok (.getfield 9, 3) := by decide +kernel
theorem dX9_learn_4 : decode cX9_learn 4 = .ok (.sipush 1778, 3) := by decide +kernel
theorem dX9_learn_7 : decode cX9_learn 7 = .ok (.aload_n 0, 1) := by decide +kernel
theorem dX9_learn_8 : decode cX9_learn 8 = .ok (.getfield 9, 3) := by decide +kernel
theorem dX9_learn_11 : decode cX9_learn 11 = .ok (.sipush 1765, 3) := by decide +kernel
theorem dX9_learn_14 : decode cX9_learn 14 = .ok (.iaload, 1) := by decide +kernel
theorem dX9_learn_15 : decode cX9_learn 15 = .ok (.aload_n 0, 1) := by decide +kernel
theorem dX9_learn_16 : decode cX9_learn 16 = .ok (.iload_n 1, 1) := by decide +kernel
theorem dX9_learn_17 : decode cX9_learn 17 = .ok (.iconst 1, 1) := by decide +kernel
theorem dX9_learn_18 : decode cX9_learn 18 = .ok (.invokevirtual 49, 3) := by decide +kernel
theorem dX9_learn_21 : decode cX9_learn 21 = .ok (.isub, 1) := by decide +kernel
theorem dX9_learn_22 : decode cX9_learn 22 = .ok (.sipush 128, 3) := by decide +kernel
theorem dX9_learn_25 : decode cX9_learn 25 = .ok (.irem, 1) := by decide +kernel
theorem dX9_learn_26 : decode cX9_learn 26 = .ok (.iadd, 1) := by decide +kernel
theorem dX9_learn_27 : decode cX9_learn 27 = .ok (.iaload, 1) := by decide +kernel
theorem dX9_learn_28 : decode cX9_learn 28 = .ok (.istore_n 2, 1) := by decide +kernel
theorem dX9_learn_29 : decode cX9_learn 29 = .ok (.iload_n 2, 1) := by decide +kernel
theorem dX9_learn_30 : decode cX9_learn 30 = .ok (.invokestatic 80, 3) := by decide +kernel
theorem dX9_learn_33 : decode cX9_learn 33 = .ok (.bipush 10, 2) := by decide +kernel
theorem dX9_learn_35 : decode cX9_learn 35 = .ok (.if_icmp .lt 74, 3) := by decide +kernel
theorem dX9_learn_38 : decode cX9_learn 38 = .ok (.aload_n 0, 1) := by decide +kernel
theorem dX9_learn_39 : decode cX9_learn 39 = .ok (.iload_n 1, 1) := by decide +kernel
theorem dX9_learn_40 : decode cX9_learn 40 = .ok (.bipush 8, 2) := by decide +kernel
theorem dX9_learn_42 : decode cX9_learn 42 = .ok (.invokevirtual 49, 3) := by decide +kernel
theorem dX9_learn_45 : decode cX9_learn 45 = .ok (.ifCond .le 64, 3) := by decide +kernel
theorem dX9_learn_48 : decode cX9_learn 48 = .ok (.aload_n 0, 1) := by decide +kernel
theorem dX9_learn_49 : decode cX9_learn 49 = .ok (.iload_n 1, 1) := by decide +kernel
theorem dX9_learn_50 : decode cX9_learn 50 = .ok (.bipush 34, 2) := by decide +kernel
theorem dX9_learn_52 : decode cX9_learn 52 = .ok (.invokevirtual 49, 3) := by decide +kernel
theorem dX9_learn_55 : decode cX9_learn 55 = .ok (.aload_n 0, 1) := by decide +kernel
theorem dX9_learn_56 : decode cX9_learn 56 = .ok (.iload_n 1, 1) := by decide +kernel
theorem dX9_learn_57 : decode cX9_learn 57 = .ok (.bipush 19, 2) := by decide +kernel
theorem dX9_learn_59 : decode cX9_learn 59 = .ok (.invokevirtual 49, 3) := by decide +kernel
theorem dX9_learn_62 : decode cX9_learn 62 = .ok (.isub, 1) := by decide +kernel
theorem dX9_learn_63 : decode cX9_learn 63 = .ok (.bipush 100, 2) := by decide +kernel
theorem dX9_learn_65 : decode cX9_learn 65 = .ok (.imul, 1) := by decide +kernel
theorem dX9_learn_66 : decode cX9_learn 66 = .ok (.iload_n 2, 1) := by decide +kernel
theorem dX9_learn_67 : decode cX9_learn 67 = .ok (.idiv, 1) := by decide +kernel
theorem dX9_learn_68 : decode cX9_learn 68 = .ok (.aload_n 0, 1) := by decide +kernel
theorem dX9_learn_69 : decode cX9_learn 69 = .ok (.iload_n 1, 1) := by decide +kernel
theorem dX9_learn_70 : decode cX9_learn 70 = .ok (.bipush 8, 2) := by decide +kernel
theorem dX9_learn_72 : decode cX9_learn 72 = .ok (.invokevirtual 49, 3) := by decide +kernel
theorem dX9_learn_75 : decode cX9_learn 75 = .ok (.imul, 1) := by decide +kernel
theorem dX9_learn_76 : decode cX9_learn 76 = .ok (.sipush 256, 3) := by decide +kernel
theorem dX9_learn_79 : decode cX9_learn 79 = .ok (.idiv, 1) := by decide +kernel
theorem dX9_learn_80 : decode cX9_learn 80 = .ok (.istore_n 3, 1) := by decide +kernel
theorem dX9_learn_81 : decode cX9_learn 81 = .ok (.aload_n 0, 1) := by decide +kernel
theorem dX9_learn_82 : decode cX9_learn 82 = .ok (.iload_n 1, 1) := by decide +kernel
theorem dX9_learn_83 : decode cX9_learn 83 = .ok (.bipush 14, 2) := by decide +kernel
theorem dX9_learn_85 : decode cX9_learn 85 = .ok (.aload_n 0, 1) := by decide +kernel
theorem dX9_learn_86 : decode cX9_learn 86 = .ok (.iload_n 1, 1) := by decide +kernel
theorem dX9_learn_87 : decode cX9_learn 87 = .ok (.bipush 14, 2) := by decide +kernel
theorem dX9_learn_89 : decode cX9_learn 89 = .ok (.invokevirtual 49, 3) := by decide +kernel
theorem dX9_learn_92 : decode cX9_learn 92 = .ok (.iload_n 3, 1) := by decide +kernel
theorem dX9_learn_93 : decode cX9_learn 93 = .ok (.iadd, 1) := by decide +kernel
theorem dX9_learn_94 : decode cX9_learn 94 = .ok (.sipush 500, 3) := by decide +kernel
theorem dX9_learn_97 : decode cX9_learn 97 = .ok (.invokestatic 93, 3) := by decide +kernel
theorem dX9_learn_100 : decode cX9_learn 100 = .ok (.invokevirtual 41, 3) := by decide +kernel
theorem dX9_learn_103 : decode cX9_learn 103 = .ok (.aload_n 0, 1) := by decide +kernel
theorem dX9_learn_104 : decode cX9_learn 104 = .ok (.iconst 5, 1) := by decide +kernel
theorem dX9_learn_105 : decode cX9_learn 105 = .ok (.iconst 1, 1) := by decide +kernel
theorem dX9_learn_106 : decode cX9_learn 106 = .ok (.invokevirtual 86, 3) := by decide +kernel
theorem dX9_learn_109 : decode cX9_learn 109 = .ok (.return_, 1) := by decide +kernel
theorem dX9_expect_0 : decode cX9_expect 0 = .ok (.aload_n 0, 1) := by decide +kernel
theorem dX9_expect_1 : decode cX9_expect 1 = .ok (.iload_n 1, 1) := by decide +kernel
theorem dX9_expect_2 : decode cX9_expect 2 = .ok (.bipush 19, 2) := by decide +kernel
theorem dX9_expect_4 : decode cX9_expect 4 = .ok (.aload_n 0, 1) := by decide +kernel
theorem dX9_expect_5 : decode cX9_expect 5 = .ok (.iload_n 1, 1) := by decide +kernel
theorem dX9_expect_6 : decode cX9_expect 6 = .ok (.bipush 34, 2) := by decide +kernel
theorem dX9_expect_8 : decode cX9_expect 8 = .ok (.invokevirtual 49, 3) := by decide +kernel
theorem dX9_expect_11 : decode cX9_expect 11 = .ok (.invokevirtual 41, 3) := by decide +kernel
theorem dX9_expect_14 : decode cX9_expect 14 = .ok (.aload_n 0, 1) := by decide +kernel
theorem dX9_expect_15 : decode cX9_expect 15 = .ok (.iload_n 1, 1) := by decide +kernel
theorem dX9_expect_16 : decode cX9_expect 16 = .ok (.bipush 20, 2) := by decide +kernel
theorem dX9_expect_18 : decode cX9_expect 18 = .ok (.aload_n 0, 1) := by decide +kernel
theorem dX9_expect_19 : decode cX9_expect 19 = .ok (.iload_n 1, 1) := by decide +kernel
theorem dX9_expect_20 : decode cX9_expect 20 = .ok (.bipush 35, 2) := by decide +kernel
theorem dX9_expect_22 : decode cX9_expect 22 = .ok (.invokevirtual 49, 3) := by decide +kernel
theorem dX9_expect_25 : decode cX9_expect 25 = .ok (.invokevirtual 41, 3) := by decide +kernel
theorem dX9_expect_28 : decode cX9_expect 28 = .ok (.return_, 1) := by decide +kernel
theorem dX9_correct_0 : decode cX9_correct 0 = .ok (.aload_n 0, 1) := by decide +kernel
theorem dX9_correct_1 : decode cX9_correct 1 = .ok (.iload_n 1, 1) := by decide +kernel
theorem dX9_correct_2 : decode cX9_correct 2 = .ok (.bipush 16, 2) := by decide +kernel
theorem dX9_correct_4 : decode cX9_correct 4 = .ok (.invokevirtual 49, 3) := by decide +kernel
theorem dX9_correct_7 : decode cX9_correct 7 = .ok (.ifCond .le 4, 3) := by decide +kernel
theorem dX9_correct_10 : decode cX9_correct 10 = .ok (.return_, 1) := by decide +kernel
theorem dX9_correct_11 : decode cX9_correct 11 = .ok (.aload_n 0, 1) := by decide +kernel
theorem dX9_correct_12 : decode cX9_correct 12 = .ok (.iload_n 1, 1) := by decide +kernel
theorem dX9_correct_13 : decode cX9_correct 13 = .ok (.bipush 34, 2) := by decide +kernel
theorem dX9_correct_15 : decode cX9_correct 15 = .ok (.invokevirtual 49, 3) := by decide +kernel
theorem dX9_correct_18 : decode cX9_correct 18 = .ok (.istore_n 2, 1) := by decide +kernel
theorem dX9_correct_19 : decode cX9_correct 19 = .ok (.aload_n 0, 1) := by decide +kernel
theorem dX9_correct_20 : decode cX9_correct 20 = .ok (.iload_n 1, 1) := by decide +kernel
theorem dX9_correct_21 : decode cX9_correct 21 = .ok (.bipush 35, 2) := by decide +kernel
theorem dX9_correct_23 : decode cX9_correct 23 = .ok (.invokevirtual 49, 3) := by decide +kernel
theorem dX9_correct_26 : decode cX9_correct 26 = .ok (.istore_n 3, 1) := by decide +kernel
theorem dX9_correct_27 : decode cX9_correct 27 = .ok (.iload_n 2, 1) := by decide +kernel
theorem dX9_correct_28 : decode cX9_correct 28 = .ok (.invokestatic 80, 3) := by decide +kernel
theorem dX9_correct_31 : decode cX9_correct 31 = .ok (.aload_n 0, 1) := by decide +kernel
theorem dX9_correct_32 : decode cX9_correct 32 = .ok (.iload_n 1, 1) := by decide +kernel
theorem dX9_correct_33 : decode cX9_correct 33 = .ok (.bipush 6, 2) := by decide +kernel
theorem dX9_correct_35 : decode cX9_correct 35 = .ok (.invokevirtual 49, 3) := by decide +kernel
theorem dX9_correct_38 : decode cX9_correct 38 = .ok (.if_icmp .le 7, 3) := by decide +kernel
theorem dX9_correct_41 : decode cX9_correct 41 = .ok (.iconst 1, 1) := by decide +kernel
theorem dX9_correct_42 : decode cX9_correct 42 = .ok (.goto 4, 3) := by decide +kernel
theorem dX9_correct_45 : decode cX9_correct 45 = .ok (.iconst 0, 1) := by decide +kernel
theorem dX9_correct_46 : decode cX9_correct 46 = .ok (.istore 4, 2) := by decide +kernel
theorem dX9_correct_48 : decode cX9_correct 48 = .ok (.iload_n 3, 1) := by decide +kernel
theorem dX9_correct_49 : decode cX9_correct 49 = .ok (.invokestatic 80, 3) := by decide +kernel
theorem dX9_correct_52 : decode cX9_correct 52 = .ok (.aload_n 0, 1) := by decide +kernel
theorem dX9_correct_53 : decode cX9_correct 53 = .ok (.iload_n 1, 1) := by decide +kernel
theorem dX9_correct_54 : decode cX9_correct 54 = .ok (.bipush 6, 2) := by decide +kernel
theorem dX9_correct_56 : decode cX9_correct 56 = .ok (.invokevirtual 49, 3) := by decide +kernel
theorem dX9_correct_59 : decode cX9_correct 59 = .ok (.if_icmp .le 7, 3) := by decide +kernel
theorem dX9_correct_62 : decode cX9_correct 62 = .ok (.iconst 1, 1) := by decide +kernel
theorem dX9_correct_63 : decode cX9_correct 63 = .ok (.goto 4, 3) := by decide +kernel
theorem dX9_correct_66 : decode cX9_correct 66 = .ok (.iconst 0, 1) := by decide +kernel
theorem dX9_correct_67 : decode cX9_correct 67 = .ok (.istore 5, 2) := by decide +kernel
theorem dX9_correct_69 : decode cX9_correct 69 = .ok (.aload_n 0, 1) := by decide +kernel
theorem dX9_correct_70 : decode cX9_correct 70 = .ok (.iload_n 1, 1) := by decide +kernel
theorem dX9_correct_71 : decode cX9_correct 71 = .ok (.bipush 11, 2) := by decide +kernel
theorem dX9_correct_73 : decode cX9_correct 73 = .ok (.invokevirtual 49, 3) := by decide +kernel
theorem dX9_correct_76 : decode cX9_correct 76 = .ok (.istore 6, 2) := by decide +kernel
theorem dX9_correct_78 : decode cX9_correct 78 = .ok (.aload_n 0, 1) := by decide +kernel
theorem dX9_correct_79 : decode cX9_correct 79 = .ok (.iload_n 1, 1) := by decide +kernel
theorem dX9_correct_80 : decode cX9_correct 80 = .ok (.bipush 12, 2) := by decide +kernel
theorem dX9_correct_82 : decode cX9_correct 82 = .ok (.invokevirtual 49, 3) := by decide +kernel
theorem dX9_correct_85 : decode cX9_correct 85 = .ok (.istore 7, 2) := by decide +kernel
theorem dX9_correct_87 : decode cX9_correct 87 = .ok (.iload 4, 2) := by decide +kernel
theorem dX9_correct_89 : decode cX9_correct 89 = .ok (.ifCond .eq 89, 3) := by decide +kernel
theorem dX9_correct_92 : decode cX9_correct 92 = .ok (.aload_n 0, 1) := by decide +kernel
theorem dX9_correct_93 : decode cX9_correct 93 = .ok (.iload_n 1, 1) := by decide +kernel
theorem dX9_correct_94 : decode cX9_correct 94 = .ok (.bipush 15, 2) := by decide +kernel
theorem dX9_correct_96 : decode cX9_correct 96 = .ok (.aload_n 0, 1) := by decide +kernel
theorem dX9_correct_97 : decode cX9_correct 97 = .ok (.iload_n 1, 1) := by decide +kernel
theorem dX9_correct_98 : decode cX9_correct 98 = .ok (.bipush 15, 2) := by decide +kernel
theorem dX9_correct_100 : decode cX9_correct 100 = .ok (.invokevirtual 49, 3) := by decide +kernel
theorem dX9_correct_103 : decode cX9_correct 103 = .ok (.iload_n 2, 1) := by decide +kernel
theorem dX9_correct_104 : decode cX9_correct 104 = .ok (.iadd, 1) := by decide +kernel
theorem dX9_correct_105 : decode cX9_correct 105 = .ok (.sipush 20000, 3) := by decide +kernel
theorem dX9_correct_108 : decode cX9_correct 108 = .ok (.invokestatic 93, 3) := by decide +kernel
theorem dX9_correct_111 : decode cX9_correct 111 = .ok (.invokevirtual 41, 3) := by decide +kernel
theorem dX9_correct_114 : decode cX9_correct 114 = .ok (.aload_n 0, 1) := by decide +kernel
theorem dX9_correct_115 : decode cX9_correct 115 = .ok (.iload_n 1, 1) := by decide +kernel
theorem dX9_correct_116 : decode cX9_correct 116 = .ok (.iconst 4, 1) := by decide +kernel
theorem dX9_correct_117 : decode cX9_correct 117 = .ok (.invokevirtual 49, 3) := by decide +kernel
theorem dX9_correct_120 : decode cX9_correct 120 = .ok (.iload_n 2, 1) := by decide +kernel
theorem dX9_correct_121 : decode cX9_correct 121 = .ok (.imul, 1) := by decide +kernel
theorem dX9_correct_122 : decode cX9_correct 122 = .ok (.aload_n 0, 1) := by decide +kernel
theorem dX9_correct_123 : decode cX9_correct 123 = .ok (.iload_n 1, 1) := by decide +kernel
theorem dX9_correct_124 : decode cX9_correct 124 = .ok (.iconst 5, 1) := by decide +kernel
theorem dX9_correct_125 : decode cX9_correct 125 = .ok (.invokevirtual 49, 3) := by decide +kernel
theorem dX9_correct_128 : decode cX9_correct 128 = .ok (.aload_n 0, 1) := by decide +kernel
theorem dX9_correct_129 : decode cX9_correct 129 = .ok (.iload_n 1, 1) := by decide +kernel
theorem dX9_correct_130 : decode cX9_correct 130 = .ok (.bipush 15, 2) := by decide +kernel
theorem dX9_correct_132 : decode cX9_correct 132 = .ok (.invokevirtual 49, 3) := by decide +kernel
theorem dX9_correct_135 : decode cX9_correct 135 = .ok (.imul, 1) := by decide +kernel
theorem dX9_correct_136 : decode cX9_correct 136 = .ok (.iadd, 1) := by decide +kernel
theorem dX9_correct_137 : decode cX9_correct 137 = .ok (.ineg, 1) := by decide +kernel
theorem dX9_correct_138 : decode cX9_correct 138 = .ok (.sipush 256, 3) := by decide +kernel
theorem dX9_correct_141 : decode cX9_correct 141 = .ok (.idiv, 1) := by decide +kernel
theorem dX9_correct_142 : decode cX9_correct 142 = .ok (.aload_n 0, 1) := by decide +kernel
theorem dX9_correct_143 : decode cX9_correct 143 = .ok (.iload_n 1, 1) := by decide +kernel
theorem dX9_correct_144 : decode cX9_correct 144 = .ok (.bipush 7, 2) := by decide +kernel
theorem dX9_correct_146 : decode cX9_correct 146 = .ok (.invokevirtual 49, 3) := by decide +kernel
theorem dX9_correct_149 : decode cX9_correct 149 = .ok (.invokestatic 93, 3) := by decide +kernel
theorem dX9_correct_152 : decode cX9_correct 152 = .ok (.istore 8, 2) := by decide +kernel
theorem dX9_correct_154 : decode cX9_correct 154 = .ok (.aload_n 0, 1) := by decide +kernel
theorem dX9_correct_155 : decode cX9_correct 155 = .ok (.iload_n 1, 1) := by decide +kernel
theorem dX9_correct_156 : decode cX9_correct 156 = .ok (.bipush 11, 2) := by decide +kernel
theorem dX9_correct_158 : decode cX9_correct 158 = .ok (.iload 6, 2) := by decide +kernel
theorem dX9_correct_160 : decode cX9_correct 160 = .ok (.iload 8, 2) := by decide +kernel
theorem dX9_correct_162 : decode cX9_correct 162 = .ok (.iadd, 1) := by decide +kernel
theorem dX9_correct_163 : decode cX9_correct 163 = .ok (.sipush 5000, 3) := by decide +kernel
theorem dX9_correct_166 : decode cX9_correct 166 = .ok (.invokestatic 93, 3) := by decide +kernel
theorem dX9_correct_169 : decode cX9_correct 169 = .ok (.invokevirtual 41, 3) := by decide +kernel
theorem dX9_correct_172 : decode cX9_correct 172 = .ok (.aload_n 0, 1) := by decide +kernel
theorem dX9_correct_173 : decode cX9_correct 173 = .ok (.iconst 3, 1) := by decide +kernel
theorem dX9_correct_174 : decode cX9_correct 174 = .ok (.iconst 1, 1) := by decide +kernel
theorem dX9_correct_175 : decode cX9_correct 175 = .ok (.invokevirtual 86, 3) := by decide +kernel
theorem dX9_correct_178 : decode cX9_correct 178 = .ok (.iload 5, 2) := by decide +kernel
theorem dX9_correct_180 : decode cX9_correct 180 = .ok (.ifCond .eq 52, 3) := by decide +kernel
theorem dX9_correct_183 : decode cX9_correct 183 = .ok (.aload_n 0, 1) := by decide +kernel
theorem dX9_correct_184 : decode cX9_correct 184 = .ok (.iload_n 1, 1) := by decide +kernel
theorem dX9_correct_185 : decode cX9_correct 185 = .ok (.iconst 4, 1) := by decide +kernel
theorem dX9_correct_186 : decode cX9_correct 186 = .ok (.invokevirtual 49, 3) := by decide +kernel
theorem dX9_correct_189 : decode cX9_correct 189 = .ok (.iload_n 3, 1) := by decide +kernel
theorem dX9_correct_190 : decode cX9_correct 190 = .ok (.imul, 1) := by decide +kernel
theorem dX9_correct_191 : decode cX9_correct 191 = .ok (.ineg, 1) := by decide +kernel
theorem dX9_correct_192 : decode cX9_correct 192 = .ok (.sipush 256, 3) := by decide +kernel
theorem dX9_correct_195 : decode cX9_correct 195 = .ok (.idiv, 1) := by decide +kernel
theorem dX9_correct_196 : decode cX9_correct 196 = .ok (.aload_n 0, 1) := by decide +kernel
theorem dX9_correct_197 : decode cX9_correct 197 = .ok (.iload_n 1, 1) := by decide +kernel
theorem dX9_correct_198 : decode cX9_correct 198 = .ok (.bipush 7, 2) := by decide +kernel
theorem dX9_correct_200 : decode cX9_correct 200 = .ok (.invokevirtual 49, 3) := by decide +kernel
theorem dX9_correct_203 : decode cX9_correct 203 = .ok (.invokestatic 93, 3) := by decide +kernel
theorem dX9_correct_206 : decode cX9_correct 206 = .ok (.istore 8, 2) := by decide +kernel
theorem dX9_correct_208 : decode cX9_correct 208 = .ok (.aload_n 0, 1) := by decide +kernel
theorem dX9_correct_209 : decode cX9_correct 209 = .ok (.iload_n 1, 1) := by decide +kernel
theorem dX9_correct_210 : decode cX9_correct 210 = .ok (.bipush 12, 2) := by decide +kernel
theorem dX9_correct_212 : decode cX9_correct 212 = .ok (.iload 7, 2) := by decide +kernel
theorem dX9_correct_214 : decode cX9_correct 214 = .ok (.iload 8, 2) := by decide +kernel
theorem dX9_correct_216 : decode cX9_correct 216 = .ok (.iadd, 1) := by decide +kernel
theorem dX9_correct_217 : decode cX9_correct 217 = .ok (.sipush 3000, 3) := by decide +kernel
theorem dX9_correct_220 : decode cX9_correct 220 = .ok (.invokestatic 93, 3) := by decide +kernel
theorem dX9_correct_223 : decode cX9_correct 223 = .ok (.invokevirtual 41, 3) := by decide +kernel
theorem dX9_correct_226 : decode cX9_correct 226 = .ok (.aload_n 0, 1) := by decide +kernel
theorem dX9_correct_227 : decode cX9_correct 227 = .ok (.iconst 4, 1) := by decide +kernel
theorem dX9_correct_228 : decode cX9_correct 228 = .ok (.iconst 1, 1) := by decide +kernel
theorem dX9_correct_229 : decode cX9_correct 229 = .ok (.invokevirtual 86, 3) := by decide +kernel
theorem dX9_correct_232 : decode cX9_correct 232 = .ok (.iload 4, 2) := by decide +kernel
theorem dX9_correct_234 : decode cX9_correct 234 = .ok (.ifCond .ne 8, 3) := by decide +kernel
theorem dX9_correct_237 : decode cX9_correct 237 = .ok (.iload 5, 2) := by decide +kernel
theorem dX9_correct_239 : decode cX9_correct 239 = .ok (.ifCond .eq 52, 3) := by decide +kernel
theorem dX9_correct_242 : decode cX9_correct 242 = .ok (.aload_n 0, 1) := by decide +kernel
theorem dX9_correct_243 : decode cX9_correct 243 = .ok (.iload_n 1, 1) := by decide +kernel
theorem dX9_correct_244 : decode cX9_correct 244 = .ok (.bipush 27, 2) := by decide +kernel
theorem dX9_correct_246 : decode cX9_correct 246 = .ok (.aload_n 0, 1) := by decide +kernel
theorem dX9_correct_247 : decode cX9_correct 247 = .ok (.iload_n 1, 1) := by decide +kernel
theorem dX9_correct_248 : decode cX9_correct 248 = .ok (.bipush 11, 2) := by decide +kernel
theorem dX9_correct_250 : decode cX9_correct 250 = .ok (.invokevirtual 49, 3) := by decide +kernel
theorem dX9_correct_253 : decode cX9_correct 253 = .ok (.iload 6, 2) := by decide +kernel
theorem dX9_correct_255 : decode cX9_correct 255 = .ok (.isub, 1) := by decide +kernel
theorem dX9_correct_256 : decode cX9_correct 256 = .ok (.invokevirtual 41, 3) := by decide +kernel
theorem dX9_correct_259 : decode cX9_correct 259 = .ok (.aload_n 0, 1) := by decide +kernel
theorem dX9_correct_260 : decode cX9_correct 260 = .ok (.iload_n 1, 1) := by decide +kernel
theorem dX9_correct_261 : decode cX9_correct 261 = .ok (.bipush 28, 2) := by decide +kernel
theorem dX9_correct_263 : decode cX9_correct 263 = .ok (.aload_n 0, 1) := by decide +kernel
theorem dX9_correct_264 : decode cX9_correct 264 = .ok (.iload_n 1, 1) := by decide +kernel
theorem dX9_correct_265 : decode cX9_correct 265 = .ok (.bipush 12, 2) := by decide +kernel
theorem dX9_correct_267 : decode cX9_correct 267 = .ok (.invokevirtual 49, 3) := by decide +kernel
theorem dX9_correct_270 : decode cX9_correct 270 = .ok (.iload 7, 2) := by decide +kernel
theorem dX9_correct_272 : decode cX9_correct 272 = .ok (.isub, 1) := by decide +kernel
theorem dX9_correct_273 : decode cX9_correct 273 = .ok (.invokevirtual 41, 3) := by decide +kernel
theorem dX9_correct_276 : decode cX9_correct 276 = .ok (.aload_n 0, 1) := by decide +kernel
theorem dX9_correct_277 : decode cX9_correct 277 = .ok (.iload_n 1, 1) := by decide +kernel
theorem dX9_correct_278 : decode cX9_correct 278 = .ok (.bipush 16, 2) := by decide +kernel
theorem dX9_correct_280 : decode cX9_correct 280 = .ok (.aload_n 0, 1) := by decide +kernel
theorem dX9_correct_281 : decode cX9_correct 281 = .ok (.iload_n 1, 1) := by decide +kernel
theorem dX9_correct_282 : decode cX9_correct 282 = .ok (.iconst 1, 1) := by decide +kernel
theorem dX9_correct_283 : decode cX9_correct 283 = .ok (.invokevirtual 49, 3) := by decide +kernel
theorem dX9_correct_286 : decode cX9_correct 286 = .ok (.iconst 1, 1) := by decide +kernel
theorem dX9_correct_287 : decode cX9_correct 287 = .ok (.iadd, 1) := by decide +kernel
theorem dX9_correct_288 : decode cX9_correct 288 = .ok (.invokevirtual 41, 3) := by decide +kernel
theorem dX9_correct_291 : decode cX9_correct 291 = .ok (.return_, 1) := by decide +kernel
theorem dX9_decrease_0 : decode cX9_decrease 0 = .ok (.aload_n 0, 1) := by decide +kernel
theorem dX9_decrease_1 : decode cX9_decrease 1 = .ok (.iload_n 1, 1) := by decide +kernel
theorem dX9_decrease_2 : decode cX9_decrease 2 = .ok (.iload_n 2, 1) := by decide +kernel
theorem dX9_decrease_3 : decode cX9_decrease 3 = .ok (.aload_n 0, 1) := by decide +kernel
theorem dX9_decrease_4 : decode cX9_decrease 4 = .ok (.iload_n 1, 1) := by decide +kernel
theorem dX9_decrease_5 : decode cX9_decrease 5 = .ok (.iload_n 2, 1) := by decide +kernel
theorem dX9_decrease_6 : decode cX9_decrease 6 = .ok (.invokevirtual 49, 3) := by decide +kernel
theorem dX9_decrease_9 : decode cX9_decrease 9 = .ok (.ifCond .le 14, 3) := by decide +kernel
theorem dX9_decrease_12 : decode cX9_decrease 12 = .ok (.aload_n 0, 1) := by decide +kernel
theorem dX9_decrease_13 : decode cX9_decrease 13 = .ok (.iload_n 1, 1) := by decide +kernel
theorem dX9_decrease_14 : decode cX9_decrease 14 = .ok (.iload_n 2, 1) := by decide +kernel
theorem dX9_decrease_15 : decode cX9_decrease 15 = .ok (.invokevirtual 49, 3) := by decide +kernel
theorem dX9_decrease_18 : decode cX9_decrease 18 = .ok (.iconst 1, 1) := by decide +kernel
theorem dX9_decrease_19 : decode cX9_decrease 19 = .ok (.isub, 1) := by decide +kernel
theorem dX9_decrease_20 : decode cX9_decrease 20 = .ok (.goto 4, 3) := by decide +kernel
theorem dX9_decrease_23 : decode cX9_decrease 23 = .ok (.iconst 0, 1) := by decide +kernel
theorem dX9_decrease_24 : decode cX9_decrease 24 = .ok (.invokevirtual 41, 3) := by decide +kernel
theorem dX9_decrease_27 : decode cX9_decrease 27 = .ok (.return_, 1) := by decide +kernel
theorem dX9_endRepeat_0 : decode cX9_endRepeat 0 = .ok (.aload_n 0, 1) := by decide +kernel
theorem dX9_endRepeat_1 : decode cX9_endRepeat 1 = .ok (.iload_n 1, 1) := by decide +kernel
theorem dX9_endRepeat_2 : decode cX9_endRepeat 2 = .ok (.bipush 16, 2) := by decide +kernel
theorem dX9_endRepeat_4 : decode cX9_endRepeat 4 = .ok (.invokevirtual 49, 3) := by decide +kernel
theorem dX9_endRepeat_7 : decode cX9_endRepeat 7 = .ok (.ifCond .le 64, 3) := by decide +kernel
theorem dX9_endRepeat_10 : decode cX9_endRepeat 10 = .ok (.aload_n 0, 1) := by decide +kernel
theorem dX9_endRepeat_11 : decode cX9_endRepeat 11 = .ok (.iload_n 1, 1) := by decide +kernel
theorem dX9_endRepeat_12 : decode cX9_endRepeat 12 = .ok (.bipush 16, 2) := by decide +kernel
theorem dX9_endRepeat_14 : decode cX9_endRepeat 14 = .ok (.invokevirtual 96, 3) := by decide +kernel
theorem dX9_endRepeat_17 : decode cX9_endRepeat 17 = .ok (.aload_n 0, 1) := by decide +kernel
theorem dX9_endRepeat_18 : decode cX9_endRepeat 18 = .ok (.iload_n 1, 1) := by decide +kernel
theorem dX9_endRepeat_19 : decode cX9_endRepeat 19 = .ok (.bipush 16, 2) := by decide +kernel
theorem dX9_endRepeat_21 : decode cX9_endRepeat 21 = .ok (.invokevirtual 49, 3) := by decide +kernel
theorem dX9_endRepeat_24 : decode cX9_endRepeat 24 = .ok (.ifCond .ne 47, 3) := by decide +kernel
theorem dX9_endRepeat_27 : decode cX9_endRepeat 27 = .ok (.aload_n 0, 1) := by decide +kernel
theorem dX9_endRepeat_28 : decode cX9_endRepeat 28 = .ok (.iload_n 1, 1) := by decide +kernel
theorem dX9_endRepeat_29 : decode cX9_endRepeat 29 = .ok (.bipush 19, 2) := by decide +kernel
theorem dX9_endRepeat_31 : decode cX9_endRepeat 31 = .ok (.aload_n 0, 1) := by decide +kernel
theorem dX9_endRepeat_32 : decode cX9_endRepeat 32 = .ok (.iload_n 1, 1) := by decide +kernel
theorem dX9_endRepeat_33 : decode cX9_endRepeat 33 = .ok (.bipush 19, 2) := by decide +kernel
theorem dX9_endRepeat_35 : decode cX9_endRepeat 35 = .ok (.invokevirtual 49, 3) := by decide +kernel
theorem dX9_endRepeat_38 : decode cX9_endRepeat 38 = .ok (.aload_n 0, 1) := by decide +kernel
theorem dX9_endRepeat_39 : decode cX9_endRepeat 39 = .ok (.iload_n 1, 1) := by decide +kernel
theorem dX9_endRepeat_40 : decode cX9_endRepeat 40 = .ok (.bipush 27, 2) := by decide +kernel
theorem dX9_endRepeat_42 : decode cX9_endRepeat 42 = .ok (.invokevirtual 49, 3) := by decide +kernel
theorem dX9_endRepeat_45 : decode cX9_endRepeat 45 = .ok (.iadd, 1) := by decide +kernel
theorem dX9_endRepeat_46 : decode cX9_endRepeat 46 = .ok (.invokevirtual 41, 3) := by decide +kernel
theorem dX9_endRepeat_49 : decode cX9_endRepeat 49 = .ok (.aload_n 0, 1) := by decide +kernel
theorem dX9_endRepeat_50 : decode cX9_endRepeat 50 = .ok (.iload_n 1, 1) := by decide +kernel
theorem dX9_endRepeat_51 : decode cX9_endRepeat 51 = .ok (.bipush 20, 2) := by decide +kernel
theorem dX9_endRepeat_53 : decode cX9_endRepeat 53 = .ok (.aload_n 0, 1) := by decide +kernel
theorem dX9_endRepeat_54 : decode cX9_endRepeat 54 = .ok (.iload_n 1, 1) := by decide +kernel
theorem dX9_endRepeat_55 : decode cX9_endRepeat 55 = .ok (.bipush 20, 2) := by decide +kernel
theorem dX9_endRepeat_57 : decode cX9_endRepeat 57 = .ok (.invokevirtual 49, 3) := by decide +kernel
theorem dX9_endRepeat_60 : decode cX9_endRepeat 60 = .ok (.aload_n 0, 1) := by decide +kernel
theorem dX9_endRepeat_61 : decode cX9_endRepeat 61 = .ok (.iload_n 1, 1) := by decide +kernel
theorem dX9_endRepeat_62 : decode cX9_endRepeat 62 = .ok (.bipush 28, 2) := by decide +kernel
theorem dX9_endRepeat_64 : decode cX9_endRepeat 64 = .ok (.invokevirtual 49, 3) := by decide +kernel
theorem dX9_endRepeat_67 : decode cX9_endRepeat 67 = .ok (.iadd, 1) := by decide +kernel
theorem dX9_endRepeat_68 : decode cX9_endRepeat 68 = .ok (.invokevirtual 41, 3) := by decide +kernel
theorem dX9_endRepeat_71 : decode cX9_endRepeat 71 = .ok (.aload_n 0, 1) := by decide +kernel
theorem dX9_endRepeat_72 : decode cX9_endRepeat 72 = .ok (.iload_n 1, 1) := by decide +kernel
theorem dX9_endRepeat_73 : decode cX9_endRepeat 73 = .ok (.bipush 18, 2) := by decide +kernel
theorem dX9_endRepeat_75 : decode cX9_endRepeat 75 = .ok (.invokevirtual 96, 3) := by decide +kernel
theorem dX9_endRepeat_78 : decode cX9_endRepeat 78 = .ok (.aload_n 0, 1) := by decide +kernel
theorem dX9_endRepeat_79 : decode cX9_endRepeat 79 = .ok (.iload_n 1, 1) := by decide +kernel
theorem dX9_endRepeat_80 : decode cX9_endRepeat 80 = .ok (.bipush 23, 2) := by decide +kernel
theorem dX9_endRepeat_82 : decode cX9_endRepeat 82 = .ok (.invokevirtual 96, 3) := by decide +kernel
theorem dX9_endRepeat_85 : decode cX9_endRepeat 85 = .ok (.aload_n 0, 1) := by decide +kernel
theorem dX9_endRepeat_86 : decode cX9_endRepeat 86 = .ok (.iload_n 1, 1) := by decide +kernel
theorem dX9_endRepeat_87 : decode cX9_endRepeat 87 = .ok (.bipush 24, 2) := by decide +kernel
theorem dX9_endRepeat_89 : decode cX9_endRepeat 89 = .ok (.invokevirtual 96, 3) := by decide +kernel
theorem dX9_endRepeat_92 : decode cX9_endRepeat 92 = .ok (.aload_n 0, 1) := by decide +kernel
theorem dX9_endRepeat_93 : decode cX9_endRepeat 93 = .ok (.iload_n 1, 1) := by decide +kernel
theorem dX9_endRepeat_94 : decode cX9_endRepeat 94 = .ok (.bipush 26, 2) := by decide +kernel
theorem dX9_endRepeat_96 : decode cX9_endRepeat 96 = .ok (.invokevirtual 96, 3) := by decide +kernel
theorem dX9_endRepeat_99 : decode cX9_endRepeat 99 = .ok (.return_, 1) := by decide +kernel
theorem dX9_makeRepeat_0 : decode cX9_makeRepeat 0 = .ok (.aload_n 0, 1) := by decide +kernel
theorem dX9_makeRepeat_1 : decode cX9_makeRepeat 1 = .ok (.getfield 9, 3) := by decide +kernel
theorem dX9_makeRepeat_4 : decode cX9_makeRepeat 4 = .ok (.sipush 1778, 3) := by decide +kernel
theorem dX9_makeRepeat_7 : decode cX9_makeRepeat 7 = .ok (.aload_n 0, 1) := by decide +kernel
theorem dX9_makeRepeat_8 : decode cX9_makeRepeat 8 = .ok (.getfield 9, 3) := by decide +kernel
theorem dX9_makeRepeat_11 : decode cX9_makeRepeat 11 = .ok (.sipush 1765, 3) := by decide +kernel
theorem dX9_makeRepeat_14 : decode cX9_makeRepeat 14 = .ok (.iaload, 1) := by decide +kernel
theorem dX9_makeRepeat_15 : decode cX9_makeRepeat 15 = .ok (.sipush 128, 3) := by decide +kernel
theorem dX9_makeRepeat_18 : decode cX9_makeRepeat 18 = .ok (.irem, 1) := by decide +kernel
theorem dX9_makeRepeat_19 : decode cX9_makeRepeat 19 = .ok (.iadd, 1) := by decide +kernel
theorem dX9_makeRepeat_20 : decode cX9_makeRepeat 20 = .ok (.aload_n 0, 1) := by decide +kernel
theorem dX9_makeRepeat_21 : decode cX9_makeRepeat 21 = .ok (.getfield 9, 3) := by decide +kernel
theorem dX9_makeRepeat_24 : decode cX9_makeRepeat 24 = .ok (.sipush 1767, 3) := by decide +kernel
theorem dX9_makeRepeat_27 : decode cX9_makeRepeat 27 = .ok (.iaload, 1) := by decide +kernel
theorem dX9_makeRepeat_28 : decode cX9_makeRepeat 28 = .ok (.aload_n 0, 1) := by decide +kernel
theorem dX9_makeRepeat_29 : decode cX9_makeRepeat 29 = .ok (.getfield 9, 3) := by decide +kernel
theorem dX9_makeRepeat_32 : decode cX9_makeRepeat 32 = .ok (.sipush 1768, 3) := by decide +kernel
theorem dX9_makeRepeat_35 : decode cX9_makeRepeat 35 = .ok (.iaload, 1) := by decide +kernel
theorem dX9_makeRepeat_36 : decode cX9_makeRepeat 36 = .ok (.isub, 1) := by decide +kernel
theorem dX9_makeRepeat_37 : decode cX9_makeRepeat 37 = .ok (.iastore, 1) := by decide +kernel
theorem dX9_makeRepeat_38 : decode cX9_makeRepeat 38 = .ok (.aload_n 0, 1) := by decide +kernel
theorem dX9_makeRepeat_39 : decode cX9_makeRepeat 39 = .ok (.invokevirtual 99, 3) := by decide +kernel
theorem dX9_makeRepeat_42 : decode cX9_makeRepeat 42 = .ok (.iconst 0, 1) := by decide +kernel
theorem dX9_makeRepeat_43 : decode cX9_makeRepeat 43 = .ok (.istore_n 1, 1) := by decide +kernel
theorem dX9_makeRepeat_44 : decode cX9_makeRepeat 44 = .ok (.iload_n 1, 1) := by decide +kernel
theorem dX9_makeRepeat_45 : decode cX9_makeRepeat 45 = .ok (.aload_n 0, 1) := by decide +kernel
theorem dX9_makeRepeat_46 : decode cX9_makeRepeat 46 = .ok (.getfield 9, 3) := by decide +kernel
theorem dX9_makeRepeat_49 : decode cX9_makeRepeat 49 = .ok (.sipush 1766, 3) := by decide +kernel
theorem dX9_makeRepeat_52 : decode cX9_makeRepeat 52 = .ok (.iaload, 1) := by decide +kernel
theorem dX9_makeRepeat_53 : decode cX9_makeRepeat 53 = .ok (.if_icmp .ge 14, 3) := by decide +kernel
theorem dX9_makeRepeat_56 : decode cX9_makeRepeat 56 = .ok (.aload_n 0, 1) := by decide +kernel
theorem dX9_makeRepeat_57 : decode cX9_makeRepeat 57 = .ok (.iload_n 1, 1) := by decide +kernel
theorem dX9_makeRepeat_58 : decode cX9_makeRepeat 58 = .ok (.invokevirtual 102, 3) := by decide +kernel
theorem dX9_makeRepeat_61 : decode cX9_makeRepeat 61 = .ok (.iinc 1 1, 3) := by decide +kernel
theorem dX9_makeRepeat_64 : decode cX9_makeRepeat 64 = .ok (.goto (-20), 3) := by decide +kernel
theorem dX9_makeRepeat_67 : decode cX9_makeRepeat 67 = .ok (.iconst 1, 1) := by decide +kernel
theorem dX9_makeRepeat_68 : decode cX9_makeRepeat 68 = .ok (.istore_n 1, 1) := by decide +kernel
theorem dX9_makeRepeat_69 : decode cX9_makeRepeat 69 = .ok (.iload_n 1, 1) := by decide +kernel
theorem dX9_makeRepeat_70 : decode cX9_makeRepeat 70 = .ok (.aload_n 0, 1) := by decide +kernel
theorem dX9_makeRepeat_71 : decode cX9_makeRepeat 71 = .ok (.getfield 9, 3) := by decide +kernel
theorem dX9_makeRepeat_74 : decode cX9_makeRepeat 74 = .ok (.sipush 1766, 3) := by decide +kernel
theorem dX9_makeRepeat_77 : decode cX9_makeRepeat 77 = .ok (.iaload, 1) := by decide +kernel
theorem dX9_makeRepeat_78 : decode cX9_makeRepeat 78 = .ok (.if_icmp .ge 50, 3) := by decide +kernel
theorem dX9_makeRepeat_81 : decode cX9_makeRepeat 81 = .ok (.aload_n 0, 1) := by decide +kernel
theorem dX9_makeRepeat_82 : decode cX9_makeRepeat 82 = .ok (.iload_n 1, 1) := by decide +kernel
theorem dX9_makeRepeat_83 : decode cX9_makeRepeat 83 = .ok (.invokevirtual 90, 3) := by decide +kernel
theorem dX9_makeRepeat_86 : decode cX9_makeRepeat 86 = .ok (.ifCond .eq 13, 3) := by decide +kernel
theorem dX9_makeRepeat_89 : decode cX9_makeRepeat 89 = .ok (.aload_n 0, 1) := by decide +kernel
theorem dX9_makeRepeat_90 : decode cX9_makeRepeat 90 = .ok (.iload_n 1, 1) := by decide +kernel
theorem dX9_makeRepeat_91 : decode cX9_makeRepeat 91 = .ok (.invokevirtual 105, 3) := by decide +kernel
theorem dX9_makeRepeat_94 : decode cX9_makeRepeat 94 = .ok (.aload_n 0, 1) := by decide +kernel
theorem dX9_makeRepeat_95 : decode cX9_makeRepeat 95 = .ok (.iload_n 1, 1) := by decide +kernel
theorem dX9_makeRepeat_96 : decode cX9_makeRepeat 96 = .ok (.invokevirtual 108, 3) := by decide +kernel
theorem dX9_makeRepeat_99 : decode cX9_makeRepeat 99 = .ok (.aload_n 0, 1) := by decide +kernel
theorem dX9_makeRepeat_100 : decode cX9_makeRepeat 100 = .ok (.iload_n 1, 1) := by decide +kernel
theorem dX9_makeRepeat_101 : decode cX9_makeRepeat 101 = .ok (.invokevirtual 111, 3) := by decide +kernel
theorem dX9_makeRepeat_104 : decode cX9_makeRepeat 104 = .ok (.ifCond .eq 18, 3) := by decide +kernel
theorem dX9_makeRepeat_107 : decode cX9_makeRepeat 107 = .ok (.aload_n 0, 1) := by decide +kernel
theorem dX9_makeRepeat_108 : decode cX9_makeRepeat 108 = .ok (.iload_n 1, 1) := by decide +kernel
theorem dX9_makeRepeat_109 : decode cX9_makeRepeat 109 = .ok (.invokevirtual 114, 3) := by decide +kernel
theorem dX9_makeRepeat_112 : decode cX9_makeRepeat 112 = .ok (.aload_n 0, 1) := by decide +kernel
theorem dX9_makeRepeat_113 : decode cX9_makeRepeat 113 = .ok (.iload_n 1, 1) := by decide +kernel
theorem dX9_makeRepeat_114 : decode cX9_makeRepeat 114 = .ok (.invokevirtual 117, 3) := by decide +kernel
theorem dX9_makeRepeat_117 : decode cX9_makeRepeat 117 = .ok (.aload_n 0, 1) := by decide +kernel
theorem dX9_makeRepeat_118 : decode cX9_makeRepeat 118 = .ok (.iload_n 1, 1) := by decide +kernel
theorem dX9_makeRepeat_119 : decode cX9_makeRepeat 119 = .ok (.invokevirtual 120, 3) := by decide +kernel
theorem dX9_makeRepeat_122 : decode cX9_makeRepeat 122 = .ok (.iinc 1 1, 3) := by decide +kernel
theorem dX9_makeRepeat_125 : decode cX9_makeRepeat 125 = .ok (.goto (-56), 3) := by decide +kernel
theorem dX9_makeRepeat_128 : decode cX9_makeRepeat 128 = .ok (.iconst 0, 1) := by decide +kernel
theorem dX9_makeRepeat_129 : decode cX9_makeRepeat 129 = .ok (.istore_n 1, 1) := by decide +kernel
theorem dX9_makeRepeat_130 : decode cX9_makeRepeat 130 = .ok (.iload_n 1, 1) := by decide +kernel
theorem dX9_makeRepeat_131 : decode cX9_makeRepeat 131 = .ok (.aload_n 0, 1) := by decide +kernel
theorem dX9_makeRepeat_132 : decode cX9_makeRepeat 132 = .ok (.getfield 9, 3) := by decide +kernel
theorem dX9_makeRepeat_135 : decode cX9_makeRepeat 135 = .ok (.sipush 1766, 3) := by decide +kernel
theorem dX9_makeRepeat_138 : decode cX9_makeRepeat 138 = .ok (.iaload, 1) := by decide +kernel
theorem dX9_makeRepeat_139 : decode cX9_makeRepeat 139 = .ok (.if_icmp .ge 14, 3) := by decide +kernel
theorem dX9_makeRepeat_142 : decode cX9_makeRepeat 142 = .ok (.aload_n 0, 1) := by decide +kernel
theorem dX9_makeRepeat_143 : decode cX9_makeRepeat 143 = .ok (.iload_n 1, 1) := by decide +kernel
theorem dX9_makeRepeat_144 : decode cX9_makeRepeat 144 = .ok (.invokevirtual 123, 3) := by decide +kernel
theorem dX9_makeRepeat_147 : decode cX9_makeRepeat 147 = .ok (.iinc 1 1, 3) := by decide +kernel
theorem dX9_makeRepeat_150 : decode cX9_makeRepeat 150 = .ok (.goto (-20), 3) := by decide +kernel
theorem dX9_makeRepeat_153 : decode cX9_makeRepeat 153 = .ok (.aload_n 0, 1) := by decide +kernel
theorem dX9_makeRepeat_154 : decode cX9_makeRepeat 154 = .ok (.getfield 9, 3) := by decide +kernel
theorem dX9_makeRepeat_157 : decode cX9_makeRepeat 157 = .ok (.sipush 1768, 3) := by decide +kernel
theorem dX9_makeRepeat_160 : decode cX9_makeRepeat 160 = .ok (.aload_n 0, 1) := by decide +kernel
theorem dX9_makeRepeat_161 : decode cX9_makeRepeat 161 = .ok (.getfield 9, 3) := by decide +kernel
theorem dX9_makeRepeat_164 : decode cX9_makeRepeat 164 = .ok (.sipush 1767, 3) := by decide +kernel
theorem dX9_makeRepeat_167 : decode cX9_makeRepeat 167 = .ok (.iaload, 1) := by decide +kernel
theorem dX9_makeRepeat_168 : decode cX9_makeRepeat 168 = .ok (.iastore, 1) := by decide +kernel
theorem dX9_makeRepeat_169 : decode cX9_makeRepeat 169 = .ok (.aload_n 0, 1) := by decide +kernel
theorem dX9_makeRepeat_170 : decode cX9_makeRepeat 170 = .ok (.getfield 9, 3) := by decide +kernel
theorem dX9_makeRepeat_173 : decode cX9_makeRepeat 173 = .ok (.sipush 1765, 3) := by decide +kernel
theorem dX9_makeRepeat_176 : decode cX9_makeRepeat 176 = .ok (.dup2, 1) := by decide +kernel
theorem dX9_makeRepeat_177 : decode cX9_makeRepeat 177 = .ok (.iaload, 1) := by decide +kernel
theorem dX9_makeRepeat_178 : decode cX9_makeRepeat 178 = .ok (.iconst 1, 1) := by decide +kernel
theorem dX9_makeRepeat_179 : decode cX9_makeRepeat 179 = .ok (.iadd, 1) := by decide +kernel
theorem dX9_makeRepeat_180 : decode cX9_makeRepeat 180 = .ok (.iastore, 1) := by decide +kernel
theorem dX9_makeRepeat_181 : decode cX9_makeRepeat 181 = .ok (.return_, 1) := by decide +kernel
theorem dX9_makeRepeats_0 : decode cX9_makeRepeats 0 = .ok (.iconst 0, 1) := by decide +kernel
theorem dX9_makeRepeats_1 : decode cX9_makeRepeats 1 = .ok (.istore_n 2, 1) := by decide +kernel
theorem dX9_makeRepeats_2 : decode cX9_makeRepeats 2 = .ok (.iload_n 2, 1) := by decide +kernel
theorem dX9_makeRepeats_3 : decode cX9_makeRepeats 3 = .ok (.iload_n 1, 1) := by decide +kernel
theorem dX9_makeRepeats_4 : decode cX9_makeRepeats 4 = .ok (.if_icmp .ge 13, 3) := by decide +kernel
theorem dX9_makeRepeats_7 : decode cX9_makeRepeats 7 = .ok (.aload_n 0, 1) := by decide +kernel
theorem dX9_makeRepeats_8 : decode cX9_makeRepeats 8 = .ok (.invokevirtual 126, 3) := by decide +kernel
theorem dX9_makeRepeats_11 : decode cX9_makeRepeats 11 = .ok (.iinc 2 1, 3) := by decide +kernel
theorem dX9_makeRepeats_14 : decode cX9_makeRepeats 14 = .ok (.goto (-12), 3) := by decide +kernel
theorem dX9_makeRepeats_17 : decode cX9_makeRepeats 17 = .ok (.return_, 1) := by decide +kernel
theorem dX9_run_0 : decode cX9_run 0 = .ok (.iload_n 1, 1) := by decide +kernel
theorem dX9_run_1 : decode cX9_run 1 = .ok (.iconst 1, 1) := by decide +kernel
theorem dX9_run_2 : decode cX9_run 2 = .ok (.sipush 300, 3) := by decide +kernel
theorem dX9_run_5 : decode cX9_run 5 = .ok (.invokestatic 45, 3) := by decide +kernel
theorem dX9_run_8 : decode cX9_run 8 = .ok (.ifCond .ne 6, 3) := by decide +kernel
theorem dX9_run_11 : decode cX9_run 11 = .ok (.ldc 52, 2) := by decide +kernel
theorem dX9_run_13 : decode cX9_run 13 = .ok (.ireturn, 1) := by decide +kernel
theorem dX9_run_14 : decode cX9_run 14 = .ok (.aload_n 0, 1) := by decide +kernel
theorem dX9_run_15 : decode cX9_run 15 = .ok (.getfield 9, 3) := by decide +kernel
theorem dX9_run_18 : decode cX9_run 18 = .ok (.sipush 1765, 3) := by decide +kernel
theorem dX9_run_21 : decode cX9_run 21 = .ok (.iaload, 1) := by decide +kernel
theorem dX9_run_22 : decode cX9_run 22 = .ok (.iload_n 1, 1) := by decide +kernel
theorem dX9_run_23 : decode cX9_run 23 = .ok (.iadd, 1) := by decide +kernel
theorem dX9_run_24 : decode cX9_run 24 = .ok (.ldc 129, 2) := by decide +kernel
theorem dX9_run_26 : decode cX9_run 26 = .ok (.if_icmp .le 6, 3) := by decide +kernel
theorem dX9_run_29 : decode cX9_run 29 = .ok (.ldc 62, 2) := by decide +kernel
theorem dX9_run_31 : decode cX9_run 31 = .ok (.ireturn, 1) := by decide +kernel
theorem dX9_run_32 : decode cX9_run 32 = .ok (.aload_n 0, 1) := by decide +kernel
theorem dX9_run_33 : decode cX9_run 33 = .ok (.iload_n 1, 1) := by decide +kernel
theorem dX9_run_34 : decode cX9_run 34 = .ok (.invokevirtual 130, 3) := by decide +kernel
theorem dX9_run_37 : decode cX9_run 37 = .ok (.aload_n 0, 1) := by decide +kernel
theorem dX9_run_38 : decode cX9_run 38 = .ok (.getfield 9, 3) := by decide +kernel
theorem dX9_run_41 : decode cX9_run 41 = .ok (.sipush 1765, 3) := by decide +kernel
theorem dX9_run_44 : decode cX9_run 44 = .ok (.iaload, 1) := by decide +kernel
theorem dX9_run_45 : decode cX9_run 45 = .ok (.ireturn, 1) := by decide +kernel
theorem dX9_seen_0 : decode cX9_seen 0 = .ok (.aload_n 0, 1) := by decide +kernel
theorem dX9_seen_1 : decode cX9_seen 1 = .ok (.iload_n 1, 1) := by decide +kernel
theorem dX9_seen_2 : decode cX9_seen 2 = .ok (.invokevirtual 53, 3) := by decide +kernel
theorem dX9_seen_5 : decode cX9_seen 5 = .ok (.ifCond .ne 6, 3) := by decide +kernel
theorem dX9_seen_8 : decode cX9_seen 8 = .ok (.ldc 57, 2) := by decide +kernel
theorem dX9_seen_10 : decode cX9_seen 10 = .ok (.ireturn, 1) := by decide +kernel
theorem dX9_seen_11 : decode cX9_seen 11 = .ok (.iload_n 2, 1) := by decide +kernel
theorem dX9_seen_12 : decode cX9_seen 12 = .ok (.iconst 0, 1) := by decide +kernel
theorem dX9_seen_13 : decode cX9_seen 13 = .ok (.bipush 6, 2) := by decide +kernel
theorem dX9_seen_15 : decode cX9_seen 15 = .ok (.invokestatic 45, 3) := by decide +kernel
theorem dX9_seen_18 : decode cX9_seen 18 = .ok (.ifCond .ne 6, 3) := by decide +kernel
theorem dX9_seen_21 : decode cX9_seen 21 = .ok (.ldc 52, 2) := by decide +kernel
theorem dX9_seen_23 : decode cX9_seen 23 = .ok (.ireturn, 1) := by decide +kernel
theorem dX9_seen_24 : decode cX9_seen 24 = .ok (.aload_n 0, 1) := by decide +kernel
theorem dX9_seen_25 : decode cX9_seen 25 = .ok (.getfield 9, 3) := by decide +kernel
theorem dX9_seen_28 : decode cX9_seen 28 = .ok (.sipush 1765, 3) := by decide +kernel
theorem dX9_seen_31 : decode cX9_seen 31 = .ok (.iaload, 1) := by decide +kernel
theorem dX9_seen_32 : decode cX9_seen 32 = .ok (.ifCond .ne 8, 3) := by decide +kernel
theorem dX9_seen_35 : decode cX9_seen 35 = .ok (.ldc 62, 2) := by decide +kernel
theorem dX9_seen_37 : decode cX9_seen 37 = .ok (.goto 12, 3) := by decide +kernel
theorem dX9_seen_40 : decode cX9_seen 40 = .ok (.aload_n 0, 1) := by decide +kernel
theorem dX9_seen_41 : decode cX9_seen 41 = .ok (.iload_n 1, 1) := by decide +kernel
theorem dX9_seen_42 : decode cX9_seen 42 = .ok (.bipush 29, 2) := by decide +kernel
theorem dX9_seen_44 : decode cX9_seen 44 = .ok (.iload_n 2, 1) := by decide +kernel
theorem dX9_seen_45 : decode cX9_seen 45 = .ok (.iadd, 1) := by decide +kernel
theorem dX9_seen_46 : decode cX9_seen 46 = .ok (.invokevirtual 49, 3) := by decide +kernel
theorem dX9_seen_49 : decode cX9_seen 49 = .ok (.ireturn, 1) := by decide +kernel
theorem dX9_state_0 : decode cX9_state 0 = .ok (.aload_n 0, 1) := by decide +kernel
theorem dX9_state_1 : decode cX9_state 1 = .ok (.iload_n 1, 1) := by decide +kernel
theorem dX9_state_2 : decode cX9_state 2 = .ok (.invokevirtual 53, 3) := by decide +kernel
theorem dX9_state_5 : decode cX9_state 5 = .ok (.ifCond .ne 6, 3) := by decide +kernel
theorem dX9_state_8 : decode cX9_state 8 = .ok (.ldc 57, 2) := by decide +kernel
theorem dX9_state_10 : decode cX9_state 10 = .ok (.ireturn, 1) := by decide +kernel
theorem dX9_state_11 : decode cX9_state 11 = .ok (.iload_n 2, 1) := by decide +kernel
theorem dX9_state_12 : decode cX9_state 12 = .ok (.iconst 0, 1) := by decide +kernel
theorem dX9_state_13 : decode cX9_state 13 = .ok (.bipush 9, 2) := by decide +kernel
theorem dX9_state_15 : decode cX9_state 15 = .ok (.invokestatic 45, 3) := by decide +kernel
theorem dX9_state_18 : decode cX9_state 18 = .ok (.ifCond .eq 13, 3) := by decide +kernel
theorem dX9_state_21 : decode cX9_state 21 = .ok (.aload_n 0, 1) := by decide +kernel
theorem dX9_state_22 : decode cX9_state 22 = .ok (.iload_n 1, 1) := by decide +kernel
theorem dX9_state_23 : decode cX9_state 23 = .ok (.bipush 11, 2) := by decide +kernel
theorem dX9_state_25 : decode cX9_state 25 = .ok (.iload_n 2, 1) := by decide +kernel
theorem dX9_state_26 : decode cX9_state 26 = .ok (.iadd, 1) := by decide +kernel
theorem dX9_state_27 : decode cX9_state 27 = .ok (.invokevirtual 49, 3) := by decide +kernel
theorem dX9_state_30 : decode cX9_state 30 = .ok (.ireturn, 1) := by decide +kernel
theorem dX9_state_31 : decode cX9_state 31 = .ok (.iload_n 2, 1) := by decide +kernel
theorem dX9_state_32 : decode cX9_state 32 = .ok (.tableswitch 62 10 13 #[32, 40, 48, 56], 32) := by decide +kernel
theorem dX9_state_64 : decode cX9_state 64 = .ok (.aload_n 0, 1) := by decide +kernel
theorem dX9_state_65 : decode cX9_state 65 = .ok (.iload_n 1, 1) := by decide +kernel
theorem dX9_state_66 : decode cX9_state 66 = .ok (.bipush 23, 2) := by decide +kernel
theorem dX9_state_68 : decode cX9_state 68 = .ok (.invokevirtual 49, 3) := by decide +kernel
theorem dX9_state_71 : decode cX9_state 71 = .ok (.ireturn, 1) := by decide +kernel
theorem dX9_state_72 : decode cX9_state 72 = .ok (.aload_n 0, 1) := by decide +kernel
theorem dX9_state_73 : decode cX9_state 73 = .ok (.iload_n 1, 1) := by decide +kernel
theorem dX9_state_74 : decode cX9_state 74 = .ok (.bipush 24, 2) := by decide +kernel
theorem dX9_state_76 : decode cX9_state 76 = .ok (.invokevirtual 49, 3) := by decide +kernel
theorem dX9_state_79 : decode cX9_state 79 = .ok (.ireturn, 1) := by decide +kernel
theorem dX9_state_80 : decode cX9_state 80 = .ok (.aload_n 0, 1) := by decide +kernel
theorem dX9_state_81 : decode cX9_state 81 = .ok (.iload_n 1, 1) := by decide +kernel
theorem dX9_state_82 : decode cX9_state 82 = .ok (.bipush 26, 2) := by decide +kernel
theorem dX9_state_84 : decode cX9_state 84 = .ok (.invokevirtual 49, 3) := by decide +kernel
theorem dX9_state_87 : decode cX9_state 87 = .ok (.ireturn, 1) := by decide +kernel
theorem dX9_state_88 : decode cX9_state 88 = .ok (.aload_n 0, 1) := by decide +kernel
theorem dX9_state_89 : decode cX9_state 89 = .ok (.iload_n 1, 1) := by decide +kernel
theorem dX9_state_90 : decode cX9_state 90 = .ok (.invokevirtual 69, 3) := by decide +kernel
theorem dX9_state_93 : decode cX9_state 93 = .ok (.ireturn, 1) := by decide +kernel
theorem dX9_state_94 : decode cX9_state 94 = .ok (.ldc 52, 2) := by decide +kernel
theorem dX9_state_96 : decode cX9_state 96 = .ok (.ireturn, 1) := by decide +kernel
theorem dX9_isControlled_0 : decode cX9_isControlled 0 = .ok (.iload_n 1, 1) := by decide +kernel
theorem dX9_isControlled_1 : decode cX9_isControlled 1 = .ok (.ifCond .eq 15, 3) := by decide +kernel
theorem dX9_isControlled_4 : decode cX9_isControlled 4 = .ok (.aload_n 0, 1) := by decide +kernel
theorem dX9_isControlled_5 : decode cX9_isControlled 5 = .ok (.iload_n 1, 1) := by decide +kernel
theorem dX9_isControlled_6 : decode cX9_isControlled 6 = .ok (.invokevirtual 53, 3) := by decide +kernel
theorem dX9_isControlled_9 : decode cX9_isControlled 9 = .ok (.ifCond .eq 7, 3) := by decide +kernel
theorem dX9_isControlled_12 : decode cX9_isControlled 12 = .ok (.iconst 1, 1) := by decide +kernel
theorem dX9_isControlled_13 : decode cX9_isControlled 13 = .ok (.goto 4, 3) := by decide +kernel
theorem dX9_isControlled_16 : decode cX9_isControlled 16 = .ok (.iconst 0, 1) := by decide +kernel
theorem dX9_isControlled_17 : decode cX9_isControlled 17 = .ok (.ireturn, 1) := by decide +kernel
theorem dX9_errors_0 : decode cX9_errors 0 = .ok (.aload_n 0, 1) := by decide +kernel
theorem dX9_errors_1 : decode cX9_errors 1 = .ok (.iload_n 1, 1) := by decide +kernel
theorem dX9_errors_2 : decode cX9_errors 2 = .ok (.invokevirtual 133, 3) := by decide +kernel
theorem dX9_errors_5 : decode cX9_errors 5 = .ok (.ifCond .ne 6, 3) := by decide +kernel
theorem dX9_errors_8 : decode cX9_errors 8 = .ok (.ldc 57, 2) := by decide +kernel
theorem dX9_errors_10 : decode cX9_errors 10 = .ok (.ireturn, 1) := by decide +kernel
theorem dX9_errors_11 : decode cX9_errors 11 = .ok (.iload_n 2, 1) := by decide +kernel
theorem dX9_errors_12 : decode cX9_errors 12 = .ok (.iconst 1, 1) := by decide +kernel
theorem dX9_errors_13 : decode cX9_errors 13 = .ok (.bipush 60, 2) := by decide +kernel
theorem dX9_errors_15 : decode cX9_errors 15 = .ok (.invokestatic 45, 3) := by decide +kernel
theorem dX9_errors_18 : decode cX9_errors 18 = .ok (.ifCond .eq 12, 3) := by decide +kernel
theorem dX9_errors_21 : decode cX9_errors 21 = .ok (.iload_n 3, 1) := by decide +kernel
theorem dX9_errors_22 : decode cX9_errors 22 = .ok (.iconst 0, 1) := by decide +kernel
theorem dX9_errors_23 : decode cX9_errors 23 = .ok (.iconst 3, 1) := by decide +kernel
theorem dX9_errors_24 : decode cX9_errors 24 = .ok (.invokestatic 45, 3) := by decide +kernel
theorem dX9_errors_27 : decode cX9_errors 27 = .ok (.ifCond .ne 6, 3) := by decide +kernel
theorem dX9_errors_30 : decode cX9_errors 30 = .ok (.ldc 52, 2) := by decide +kernel
theorem dX9_errors_32 : decode cX9_errors 32 = .ok (.ireturn, 1) := by decide +kernel
theorem dX9_errors_33 : decode cX9_errors 33 = .ok (.aload_n 0, 1) := by decide +kernel
theorem dX9_errors_34 : decode cX9_errors 34 = .ok (.iload_n 1, 1) := by decide +kernel
theorem dX9_errors_35 : decode cX9_errors 35 = .ok (.bipush 36, 2) := by decide +kernel
theorem dX9_errors_37 : decode cX9_errors 37 = .ok (.invokevirtual 49, 3) := by decide +kernel
theorem dX9_errors_40 : decode cX9_errors 40 = .ok (.istore 4, 2) := by decide +kernel
theorem dX9_errors_42 : decode cX9_errors 42 = .ok (.iload 4, 2) := by decide +kernel
theorem dX9_errors_44 : decode cX9_errors 44 = .ok (.iload_n 2, 1) := by decide +kernel
theorem dX9_errors_45 : decode cX9_errors 45 = .ok (.if_icmp .ge 8, 3) := by decide +kernel
theorem dX9_errors_48 : decode cX9_errors 48 = .ok (.iload 4, 2) := by decide +kernel
theorem dX9_errors_50 : decode cX9_errors 50 = .ok (.goto 4, 3) := by decide +kernel
theorem dX9_errors_53 : decode cX9_errors 53 = .ok (.iload_n 2, 1) := by decide +kernel
theorem dX9_errors_54 : decode cX9_errors 54 = .ok (.istore 5, 2) := by decide +kernel
theorem dX9_errors_56 : decode cX9_errors 56 = .ok (.iconst 0, 1) := by decide +kernel
theorem dX9_errors_57 : decode cX9_errors 57 = .ok (.istore 6, 2) := by decide +kernel
theorem dX9_errors_59 : decode cX9_errors 59 = .ok (.iconst 0, 1) := by decide +kernel
theorem dX9_errors_60 : decode cX9_errors 60 = .ok (.istore 7, 2) := by decide +kernel
theorem dX9_errors_62 : decode cX9_errors 62 = .ok (.iconst 0, 1) := by decide +kernel
theorem dX9_errors_63 : decode cX9_errors 63 = .ok (.istore 8, 2) := by decide +kernel
theorem dX9_errors_65 : decode cX9_errors 65 = .ok (.iload 4, 2) := by decide +kernel
theorem dX9_errors_67 : decode cX9_errors 67 = .ok (.iload 5, 2) := by decide +kernel
theorem dX9_errors_69 : decode cX9_errors 69 = .ok (.isub, 1) := by decide +kernel
theorem dX9_errors_70 : decode cX9_errors 70 = .ok (.istore 9, 2) := by decide +kernel
theorem dX9_errors_72 : decode cX9_errors 72 = .ok (.iload 9, 2) := by decide +kernel
theorem dX9_errors_74 : decode cX9_errors 74 = .ok (.iload 4, 2) := by decide +kernel
theorem dX9_errors_76 : decode cX9_errors 76 = .ok (.if_icmp .ge 72, 3) := by decide +kernel
theorem dX9_errors_79 : decode cX9_errors 79 = .ok (.aload_n 0, 1) := by decide +kernel
theorem dX9_errors_80 : decode cX9_errors 80 = .ok (.iload_n 1, 1) := by decide +kernel
theorem dX9_errors_81 : decode cX9_errors 81 = .ok (.bipush 37, 2) := by decide +kernel
theorem dX9_errors_83 : decode cX9_errors 83 = .ok (.iload 9, 2) := by decide +kernel
theorem dX9_errors_85 : decode cX9_errors 85 = .ok (.bipush 60, 2) := by decide +kernel
theorem dX9_errors_87 : decode cX9_errors 87 = .ok (.irem, 1) := by decide +kernel
theorem dX9_errors_88 : decode cX9_errors 88 = .ok (.iadd, 1) := by decide +kernel
theorem dX9_errors_89 : decode cX9_errors 89 = .ok (.invokevirtual 49, 3) := by decide +kernel
theorem dX9_errors_92 : decode cX9_errors 92 = .ok (.invokestatic 80, 3) := by decide +kernel
theorem dX9_errors_95 : decode cX9_errors 95 = .ok (.istore 10, 2) := by decide +kernel
theorem dX9_errors_97 : decode cX9_errors 97 = .ok (.iload 10, 2) := by decide +kernel
theorem dX9_errors_99 : decode cX9_errors 99 = .ok (.iload 6, 2) := by decide +kernel
theorem dX9_errors_101 : decode cX9_errors 101 = .ok (.if_icmp .le 8, 3) := by decide +kernel
theorem dX9_errors_104 : decode cX9_errors 104 = .ok (.iload 10, 2) := by decide +kernel
theorem dX9_errors_106 : decode cX9_errors 106 = .ok (.goto 5, 3) := by decide +kernel
theorem dX9_errors_109 : decode cX9_errors 109 = .ok (.iload 6, 2) := by decide +kernel
theorem dX9_errors_111 : decode cX9_errors 111 = .ok (.istore 6, 2) := by decide +kernel
theorem dX9_errors_113 : decode cX9_errors 113 = .ok (.iload 7, 2) := by decide +kernel
theorem dX9_errors_115 : decode cX9_errors 115 = .ok (.iload 10, 2) := by decide +kernel
theorem dX9_errors_117 : decode cX9_errors 117 = .ok (.iadd, 1) := by decide +kernel
theorem dX9_errors_118 : decode cX9_errors 118 = .ok (.istore 7, 2) := by decide +kernel
theorem dX9_errors_120 : decode cX9_errors 120 = .ok (.iload 8, 2) := by decide +kernel
theorem dX9_errors_122 : decode cX9_errors 122 = .ok (.iload 10, 2) := by decide +kernel
theorem dX9_errors_124 : decode cX9_errors 124 = .ok (.aload_n 0, 1) := by decide +kernel
theorem dX9_errors_125 : decode cX9_errors 125 = .ok (.iload_n 1, 1) := by decide +kernel
theorem dX9_errors_126 : decode cX9_errors 126 = .ok (.bipush 6, 2) := by decide +kernel
theorem dX9_errors_128 : decode cX9_errors 128 = .ok (.invokevirtual 49, 3) := by decide +kernel
theorem dX9_errors_131 : decode cX9_errors 131 = .ok (.if_icmp .le 7, 3) := by decide +kernel
theorem dX9_errors_134 : decode cX9_errors 134 = .ok (.iconst 1, 1) := by decide +kernel
theorem dX9_errors_135 : decode cX9_errors 135 = .ok (.goto 4, 3) := by decide +kernel
theorem dX9_errors_138 : decode cX9_errors 138 = .ok (.iconst 0, 1) := by decide +kernel
theorem dX9_errors_139 : decode cX9_errors 139 = .ok (.iadd, 1) := by decide +kernel
theorem dX9_errors_140 : decode cX9_errors 140 = .ok (.istore 8, 2) := by decide +kernel
theorem dX9_errors_142 : decode cX9_errors 142 = .ok (.iinc 9 1, 3) := by decide +kernel
theorem dX9_errors_145 : decode cX9_errors 145 = .ok (.goto (-73), 3) := by decide +kernel
theorem dX9_errors_148 : decode cX9_errors 148 = .ok (.iload_n 3, 1) := by decide +kernel
theorem dX9_errors_149 : decode cX9_errors 149 = .ok (.ifCond .ne 8, 3) := by decide +kernel
theorem dX9_errors_152 : decode cX9_errors 152 = .ok (.iload 6, 2) := by decide +kernel
theorem dX9_errors_154 : decode cX9_errors 154 = .ok (.goto 25, 3) := by decide +kernel
theorem dX9_errors_157 : decode cX9_errors 157 = .ok (.iload_n 3, 1) := by decide +kernel
theorem dX9_errors_158 : decode cX9_errors 158 = .ok (.iconst 1, 1) := by decide +kernel
theorem dX9_errors_159 : decode cX9_errors 159 = .ok (.if_icmp .ne 8, 3) := by decide +kernel
theorem dX9_errors_162 : decode cX9_errors 162 = .ok (.iload 7, 2) := by decide +kernel
theorem dX9_errors_164 : decode cX9_errors 164 = .ok (.goto 15, 3) := by decide +kernel
theorem dX9_errors_167 : decode cX9_errors 167 = .ok (.iload_n 3, 1) := by decide +kernel
theorem dX9_errors_168 : decode cX9_errors 168 = .ok (.iconst 2, 1) := by decide +kernel
theorem dX9_errors_169 : decode cX9_errors 169 = .ok (.if_icmp .ne 8, 3) := by decide +kernel
theorem dX9_errors_172 : decode cX9_errors 172 = .ok (.iload 5, 2) := by decide +kernel
theorem dX9_errors_174 : decode cX9_errors 174 = .ok (.goto 5, 3) := by decide +kernel
theorem dX9_errors_177 : decode cX9_errors 177 = .ok (.iload 8, 2) := by decide +kernel
theorem dX9_errors_179 : decode cX9_errors 179 = .ok (.ireturn, 1) := by decide +kernel
theorem dX9_total_0 : decode cX9_total 0 = .ok (.iload_n 1, 1) := by decide +kernel
theorem dX9_total_1 : decode cX9_total 1 = .ok (.iconst 0, 1) := by decide +kernel
theorem dX9_total_2 : decode cX9_total 2 = .ok (.iconst 5, 1) := by decide +kernel
theorem dX9_total_3 : decode cX9_total 3 = .ok (.invokestatic 45, 3) := by decide +kernel
theorem dX9_total_6 : decode cX9_total 6 = .ok (.ifCond .eq 16, 3) := by decide +kernel
theorem dX9_total_9 : decode cX9_total 9 = .ok (.aload_n 0, 1) := by decide +kernel
theorem dX9_total_10 : decode cX9_total 10 = .ok (.getfield 9, 3) := by decide +kernel
theorem dX9_total_13 : decode cX9_total 13 = .ok (.sipush 1772, 3) := by decide +kernel
theorem dX9_total_16 : decode cX9_total 16 = .ok (.iload_n 1, 1) := by decide +kernel
theorem dX9_total_17 : decode cX9_total 17 = .ok (.iadd, 1) := by decide +kernel
theorem dX9_total_18 : decode cX9_total 18 = .ok (.iaload, 1) := by decide +kernel
theorem dX9_total_19 : decode cX9_total 19 = .ok (.goto 5, 3) := by decide +kernel
theorem dX9_total_22 : decode cX9_total 22 = .ok (.ldc 52, 2) := by decide +kernel
theorem dX9_total_24 : decode cX9_total 24 = .ok (.ireturn, 1) := by decide +kernel
theorem dX9_comesBack_0 : decode cX9_comesBack 0 = .ok (.iconst 0, 1) := by decide +kernel
theorem dX9_comesBack_1 : decode cX9_comesBack 1 = .ok (.istore 4, 2) := by decide +kernel
theorem dX9_comesBack_3 : decode cX9_comesBack 3 = .ok (.iconst 1, 1) := by decide +kernel
theorem dX9_comesBack_4 : decode cX9_comesBack 4 = .ok (.istore 5, 2) := by decide +kernel
theorem dX9_comesBack_6 : decode cX9_comesBack 6 = .ok (.iload 5, 2) := by decide +kernel
theorem dX9_comesBack_8 : decode cX9_comesBack 8 = .ok (.iload_n 3, 1) := by decide +kernel
theorem dX9_comesBack_9 : decode cX9_comesBack 9 = .ok (.if_icmp .gt 60, 3) := by decide +kernel
theorem dX9_comesBack_12 : decode cX9_comesBack 12 = .ok (.aload_n 0, 1) := by decide +kernel
theorem dX9_comesBack_13 : decode cX9_comesBack 13 = .ok (.iload_n 1, 1) := by decide +kernel
theorem dX9_comesBack_14 : decode cX9_comesBack 14 = .ok (.invokevirtual 90, 3) := by decide +kernel
theorem dX9_comesBack_17 : decode cX9_comesBack 17 = .ok (.istore 6, 2) := by decide +kernel
theorem dX9_comesBack_19 : decode cX9_comesBack 19 = .ok (.aload_n 0, 1) := by decide +kernel
theorem dX9_comesBack_20 : decode cX9_comesBack 20 = .ok (.invokevirtual 126, 3) := by decide +kernel
theorem dX9_comesBack_23 : decode cX9_comesBack 23 = .ok (.iload 6, 2) := by decide +kernel
theorem dX9_comesBack_25 : decode cX9_comesBack 25 = .ok (.ifCond .eq 24, 3) := by decide +kernel
theorem dX9_comesBack_28 : decode cX9_comesBack 28 = .ok (.aload_n 0, 1) := by decide +kernel
theorem dX9_comesBack_29 : decode cX9_comesBack 29 = .ok (.iload_n 1, 1) := by decide +kernel
theorem dX9_comesBack_30 : decode cX9_comesBack 30 = .ok (.bipush 31, 2) := by decide +kernel
theorem dX9_comesBack_32 : decode cX9_comesBack 32 = .ok (.invokevirtual 49, 3) := by decide +kernel
theorem dX9_comesBack_35 : decode cX9_comesBack 35 = .ok (.invokestatic 80, 3) := by decide +kernel
theorem dX9_comesBack_38 : decode cX9_comesBack 38 = .ok (.iload_n 2, 1) := by decide +kernel
theorem dX9_comesBack_39 : decode cX9_comesBack 39 = .ok (.if_icmp .gt 10, 3) := by decide +kernel
theorem dX9_comesBack_42 : decode cX9_comesBack 42 = .ok (.iload 4, 2) := by decide +kernel
theorem dX9_comesBack_44 : decode cX9_comesBack 44 = .ok (.iconst 1, 1) := by decide +kernel
theorem dX9_comesBack_45 : decode cX9_comesBack 45 = .ok (.iadd, 1) := by decide +kernel
theorem dX9_comesBack_46 : decode cX9_comesBack 46 = .ok (.goto 4, 3) := by decide +kernel
theorem dX9_comesBack_49 : decode cX9_comesBack 49 = .ok (.iconst 0, 1) := by decide +kernel
theorem dX9_comesBack_50 : decode cX9_comesBack 50 = .ok (.istore 4, 2) := by decide +kernel
theorem dX9_comesBack_52 : decode cX9_comesBack 52 = .ok (.iload 4, 2) := by decide +kernel
theorem dX9_comesBack_54 : decode cX9_comesBack 54 = .ok (.iconst 5, 1) := by decide +kernel
theorem dX9_comesBack_55 : decode cX9_comesBack 55 = .ok (.if_icmp .ne 8, 3) := by decide +kernel
theorem dX9_comesBack_58 : decode cX9_comesBack 58 = .ok (.iload 5, 2) := by decide +kernel
theorem dX9_comesBack_60 : decode cX9_comesBack 60 = .ok (.iconst 5, 1) := by decide +kernel
theorem dX9_comesBack_61 : decode cX9_comesBack 61 = .ok (.isub, 1) := by decide +kernel
theorem dX9_comesBack_62 : decode cX9_comesBack 62 = .ok (.ireturn, 1) := by decide +kernel
theorem dX9_comesBack_63 : decode cX9_comesBack 63 = .ok (.iinc 5 1, 3) := by decide +kernel
theorem dX9_comesBack_66 : decode cX9_comesBack 66 = .ok (.goto (-60), 3) := by decide +kernel
theorem dX9_comesBack_69 : decode cX9_comesBack 69 = .ok (.ldc 75, 2) := by decide +kernel
theorem dX9_comesBack_71 : decode cX9_comesBack 71 = .ok (.ireturn, 1) := by decide +kernel
theorem dX9_forecast_0 : decode cX9_forecast 0 = .ok (.aload_n 0, 1) := by decide +kernel
theorem dX9_forecast_1 : decode cX9_forecast 1 = .ok (.iload_n 1, 1) := by decide +kernel
theorem dX9_forecast_2 : decode cX9_forecast 2 = .ok (.invokevirtual 133, 3) := by decide +kernel
theorem dX9_forecast_5 : decode cX9_forecast 5 = .ok (.ifCond .ne 6, 3) := by decide +kernel
theorem dX9_forecast_8 : decode cX9_forecast 8 = .ok (.ldc 57, 2) := by decide +kernel
theorem dX9_forecast_10 : decode cX9_forecast 10 = .ok (.ireturn, 1) := by decide +kernel
theorem dX9_forecast_11 : decode cX9_forecast 11 = .ok (.iload_n 2, 1) := by decide +kernel
theorem dX9_forecast_12 : decode cX9_forecast 12 = .ok (.iconst 0, 1) := by decide +kernel
theorem dX9_forecast_13 : decode cX9_forecast 13 = .ok (.sipush 1000, 3) := by decide +kernel
theorem dX9_forecast_16 : decode cX9_forecast 16 = .ok (.invokestatic 45, 3) := by decide +kernel
theorem dX9_forecast_19 : decode cX9_forecast 19 = .ok (.ifCond .eq 14, 3) := by decide +kernel
theorem dX9_forecast_22 : decode cX9_forecast 22 = .ok (.iload_n 3, 1) := by decide +kernel
theorem dX9_forecast_23 : decode cX9_forecast 23 = .ok (.iconst 5, 1) := by decide +kernel
theorem dX9_forecast_24 : decode cX9_forecast 24 = .ok (.sipush 300, 3) := by decide +kernel
theorem dX9_forecast_27 : decode cX9_forecast 27 = .ok (.invokestatic 45, 3) := by decide +kernel
theorem dX9_forecast_30 : decode cX9_forecast 30 = .ok (.ifCond .ne 6, 3) := by decide +kernel
theorem dX9_forecast_33 : decode cX9_forecast 33 = .ok (.ldc 52, 2) := by decide +kernel
theorem dX9_forecast_35 : decode cX9_forecast 35 = .ok (.ireturn, 1) := by decide +kernel
theorem dX9_forecast_36 : decode cX9_forecast 36 = .ok (.aload_n 0, 1) := by decide +kernel
theorem dX9_forecast_37 : decode cX9_forecast 37 = .ok (.invokevirtual 136, 3) := by decide +kernel
theorem dX9_forecast_40 : decode cX9_forecast 40 = .ok (.aload_n 0, 1) := by decide +kernel
theorem dX9_forecast_41 : decode cX9_forecast 41 = .ok (.iload_n 1, 1) := by decide +kernel
theorem dX9_forecast_42 : decode cX9_forecast 42 = .ok (.iload_n 2, 1) := by decide +kernel
theorem dX9_forecast_43 : decode cX9_forecast 43 = .ok (.iload_n 3, 1) := by decide +kernel
theorem dX9_forecast_44 : decode cX9_forecast 44 = .ok (.invokevirtual 139, 3) := by decide +kernel
theorem dX9_forecast_47 : decode cX9_forecast 47 = .ok (.istore 4, 2) := by decide +kernel
theorem dX9_forecast_49 : decode cX9_forecast 49 = .ok (.aload_n 0, 1) := by decide +kernel
theorem dX9_forecast_50 : decode cX9_forecast 50 = .ok (.invokevirtual 143, 3) := by decide +kernel
theorem dX9_forecast_53 : decode cX9_forecast 53 = .ok (.iload 4, 2) := by decide +kernel
theorem dX9_forecast_55 : decode cX9_forecast 55 = .ok (.ireturn, 1) := by decide +kernel
theorem dX9_tried_0 : decode cX9_tried 0 = .ok (.aload_n 0, 1) := by decide +kernel
theorem dX9_tried_1 : decode cX9_tried 1 = .ok (.invokevirtual 136, 3) := by decide +kernel
theorem dX9_tried_4 : decode cX9_tried 4 = .ok (.aload_n 0, 1) := by decide +kernel
theorem dX9_tried_5 : decode cX9_tried 5 = .ok (.iload_n 1, 1) := by decide +kernel
theorem dX9_tried_6 : decode cX9_tried 6 = .ok (.iload_n 2, 1) := by decide +kernel
theorem dX9_tried_7 : decode cX9_tried 7 = .ok (.iload_n 3, 1) := by decide +kernel
theorem dX9_tried_8 : decode cX9_tried 8 = .ok (.invokevirtual 41, 3) := by decide +kernel
theorem dX9_tried_11 : decode cX9_tried 11 = .ok (.iconst 0, 1) := by decide +kernel
theorem dX9_tried_12 : decode cX9_tried 12 = .ok (.istore 5, 2) := by decide +kernel
theorem dX9_tried_14 : decode cX9_tried 14 = .ok (.iconst 0, 1) := by decide +kernel
theorem dX9_tried_15 : decode cX9_tried 15 = .ok (.istore 6, 2) := by decide +kernel
theorem dX9_tried_17 : decode cX9_tried 17 = .ok (.iload 6, 2) := by decide +kernel
theorem dX9_tried_19 : decode cX9_tried 19 = .ok (.iload 4, 2) := by decide +kernel
theorem dX9_tried_21 : decode cX9_tried 21 = .ok (.if_icmp .ge 44, 3) := by decide +kernel
theorem dX9_tried_24 : decode cX9_tried 24 = .ok (.aload_n 0, 1) := by decide +kernel
theorem dX9_tried_25 : decode cX9_tried 25 = .ok (.iload_n 1, 1) := by decide +kernel
theorem dX9_tried_26 : decode cX9_tried 26 = .ok (.invokevirtual 90, 3) := by decide +kernel
theorem dX9_tried_29 : decode cX9_tried 29 = .ok (.istore 7, 2) := by decide +kernel
theorem dX9_tried_31 : decode cX9_tried 31 = .ok (.aload_n 0, 1) := by decide +kernel
theorem dX9_tried_32 : decode cX9_tried 32 = .ok (.invokevirtual 126, 3) := by decide +kernel
theorem dX9_tried_35 : decode cX9_tried 35 = .ok (.iload 5, 2) := by decide +kernel
theorem dX9_tried_37 : decode cX9_tried 37 = .ok (.iload 7, 2) := by decide +kernel
theorem dX9_tried_39 : decode cX9_tried 39 = .ok (.ifCond .eq 16, 3) := by decide +kernel
theorem dX9_tried_42 : decode cX9_tried 42 = .ok (.aload_n 0, 1) := by decide +kernel
theorem dX9_tried_43 : decode cX9_tried 43 = .ok (.iload_n 1, 1) := by decide +kernel
theorem dX9_tried_44 : decode cX9_tried 44 = .ok (.bipush 31, 2) := by decide +kernel
theorem dX9_tried_46 : decode cX9_tried 46 = .ok (.invokevirtual 49, 3) := by decide +kernel
theorem dX9_tried_49 : decode cX9_tried 49 = .ok (.invokestatic 80, 3) := by decide +kernel
theorem dX9_tried_52 : decode cX9_tried 52 = .ok (.goto 4, 3) := by decide +kernel
theorem dX9_tried_55 : decode cX9_tried 55 = .ok (.iconst 0, 1) := by decide +kernel
theorem dX9_tried_56 : decode cX9_tried 56 = .ok (.iadd, 1) := by decide +kernel
theorem dX9_tried_57 : decode cX9_tried 57 = .ok (.istore 5, 2) := by decide +kernel
theorem dX9_tried_59 : decode cX9_tried 59 = .ok (.iinc 6 1, 3) := by decide +kernel
theorem dX9_tried_62 : decode cX9_tried 62 = .ok (.goto (-45), 3) := by decide +kernel
theorem dX9_tried_65 : decode cX9_tried 65 = .ok (.aload_n 0, 1) := by decide +kernel
theorem dX9_tried_66 : decode cX9_tried 66 = .ok (.invokevirtual 143, 3) := by decide +kernel
theorem dX9_tried_69 : decode cX9_tried 69 = .ok (.iload 5, 2) := by decide +kernel
theorem dX9_tried_71 : decode cX9_tried 71 = .ok (.ireturn, 1) := by decide +kernel
theorem dX9_attempt_0 : decode cX9_attempt 0 = .ok (.aload_n 0, 1) := by decide +kernel
theorem dX9_attempt_1 : decode cX9_attempt 1 = .ok (.iload_n 1, 1) := by decide +kernel
theorem dX9_attempt_2 : decode cX9_attempt 2 = .ok (.invokevirtual 133, 3) := by decide +kernel
theorem dX9_attempt_5 : decode cX9_attempt 5 = .ok (.ifCond .ne 6, 3) := by decide +kernel
theorem dX9_attempt_8 : decode cX9_attempt 8 = .ok (.ldc 57, 2) := by decide +kernel
theorem dX9_attempt_10 : decode cX9_attempt 10 = .ok (.ireturn, 1) := by decide +kernel
theorem dX9_attempt_11 : decode cX9_attempt 11 = .ok (.iload_n 2, 1) := by decide +kernel
theorem dX9_attempt_12 : decode cX9_attempt 12 = .ok (.iconst 1, 1) := by decide +kernel
theorem dX9_attempt_13 : decode cX9_attempt 13 = .ok (.if_icmp .le 23, 3) := by decide +kernel
theorem dX9_attempt_16 : decode cX9_attempt 16 = .ok (.iload_n 2, 1) := by decide +kernel
theorem dX9_attempt_17 : decode cX9_attempt 17 = .ok (.iload_n 3, 1) := by decide +kernel
theorem dX9_attempt_18 : decode cX9_attempt 18 = .ok (.invokestatic 58, 3) := by decide +kernel
theorem dX9_attempt_21 : decode cX9_attempt 21 = .ok (.ifCond .eq 15, 3) := by decide +kernel
theorem dX9_attempt_24 : decode cX9_attempt 24 = .ok (.iload 4, 2) := by decide +kernel
theorem dX9_attempt_26 : decode cX9_attempt 26 = .ok (.iconst 1, 1) := by decide +kernel
theorem dX9_attempt_27 : decode cX9_attempt 27 = .ok (.sipush 300, 3) := by decide +kernel
theorem dX9_attempt_30 : decode cX9_attempt 30 = .ok (.invokestatic 45, 3) := by decide +kernel
theorem dX9_attempt_33 : decode cX9_attempt 33 = .ok (.ifCond .ne 6, 3) := by decide +kernel
theorem dX9_attempt_36 : decode cX9_attempt 36 = .ok (.ldc 52, 2) := by decide +kernel
theorem dX9_attempt_38 : decode cX9_attempt 38 = .ok (.ireturn, 1) := by decide +kernel
theorem dX9_attempt_39 : decode cX9_attempt 39 = .ok (.aload_n 0, 1) := by decide +kernel
theorem dX9_attempt_40 : decode cX9_attempt 40 = .ok (.iload_n 1, 1) := by decide +kernel
theorem dX9_attempt_41 : decode cX9_attempt 41 = .ok (.iload_n 2, 1) := by decide +kernel
theorem dX9_attempt_42 : decode cX9_attempt 42 = .ok (.iload_n 3, 1) := by decide +kernel
theorem dX9_attempt_43 : decode cX9_attempt 43 = .ok (.iload 4, 2) := by decide +kernel
theorem dX9_attempt_45 : decode cX9_attempt 45 = .ok (.invokevirtual 146, 3) := by decide +kernel
theorem dX9_attempt_48 : decode cX9_attempt 48 = .ok (.ireturn, 1) := by decide +kernel
theorem dX9_bestGain_0 : decode cX9_bestGain 0 = .ok (.aload_n 0, 1) := by decide +kernel
theorem dX9_bestGain_1 : decode cX9_bestGain 1 = .ok (.iload_n 1, 1) := by decide +kernel
theorem dX9_bestGain_2 : decode cX9_bestGain 2 = .ok (.invokevirtual 133, 3) := by decide +kernel
theorem dX9_bestGain_5 : decode cX9_bestGain 5 = .ok (.ifCond .ne 6, 3) := by decide +kernel
theorem dX9_bestGain_8 : decode cX9_bestGain 8 = .ok (.ldc 57, 2) := by decide +kernel
theorem dX9_bestGain_10 : decode cX9_bestGain 10 = .ok (.ireturn, 1) := by decide +kernel
theorem dX9_bestGain_11 : decode cX9_bestGain 11 = .ok (.iload_n 2, 1) := by decide +kernel
theorem dX9_bestGain_12 : decode cX9_bestGain 12 = .ok (.iconst 0, 1) := by decide +kernel
theorem dX9_bestGain_13 : decode cX9_bestGain 13 = .ok (.sipush 256, 3) := by decide +kernel
theorem dX9_bestGain_16 : decode cX9_bestGain 16 = .ok (.invokestatic 45, 3) := by decide +kernel
theorem dX9_bestGain_19 : decode cX9_bestGain 19 = .ok (.ifCond .eq 51, 3) := by decide +kernel
theorem dX9_bestGain_22 : decode cX9_bestGain 22 = .ok (.iload_n 3, 1) := by decide +kernel
theorem dX9_bestGain_23 : decode cX9_bestGain 23 = .ok (.iconst 1, 1) := by decide +kernel
theorem dX9_bestGain_24 : decode cX9_bestGain 24 = .ok (.sipush 128, 3) := by decide +kernel
theorem dX9_bestGain_27 : decode cX9_bestGain 27 = .ok (.invokestatic 45, 3) := by decide +kernel
theorem dX9_bestGain_30 : decode cX9_bestGain 30 = .ok (.ifCond .eq 40, 3) := by decide +kernel
theorem dX9_bestGain_33 : decode cX9_bestGain 33 = .ok (.iload 4, 2) := by decide +kernel
theorem dX9_bestGain_35 : decode cX9_bestGain 35 = .ok (.iconst 1, 1) := by decide +kernel
theorem dX9_bestGain_36 : decode cX9_bestGain 36 = .ok (.bipush 8, 2) := by decide +kernel
theorem dX9_bestGain_38 : decode cX9_bestGain 38 = .ok (.invokestatic 45, 3) := by decide +kernel
theorem dX9_bestGain_41 : decode cX9_bestGain 41 = .ok (.ifCond .eq 29, 3) := by decide +kernel
theorem dX9_bestGain_44 : decode cX9_bestGain 44 = .ok (.iload_n 2, 1) := by decide +kernel
theorem dX9_bestGain_45 : decode cX9_bestGain 45 = .ok (.iload_n 3, 1) := by decide +kernel
theorem dX9_bestGain_46 : decode cX9_bestGain 46 = .ok (.iload 4, 2) := by decide +kernel
theorem dX9_bestGain_48 : decode cX9_bestGain 48 = .ok (.iconst 1, 1) := by decide +kernel
theorem dX9_bestGain_49 : decode cX9_bestGain 49 = .ok (.isub, 1) := by decide +kernel
theorem dX9_bestGain_50 : decode cX9_bestGain 50 = .ok (.imul, 1) := by decide +kernel
theorem dX9_bestGain_51 : decode cX9_bestGain 51 = .ok (.iadd, 1) := by decide +kernel
theorem dX9_bestGain_52 : decode cX9_bestGain 52 = .ok (.sipush 256, 3) := by decide +kernel
theorem dX9_bestGain_55 : decode cX9_bestGain 55 = .ok (.if_icmp .gt 15, 3) := by decide +kernel
theorem dX9_bestGain_58 : decode cX9_bestGain 58 = .ok (.iload 5, 2) := by decide +kernel
theorem dX9_bestGain_60 : decode cX9_bestGain 60 = .ok (.iconst 1, 1) := by decide +kernel
theorem dX9_bestGain_61 : decode cX9_bestGain 61 = .ok (.sipush 300, 3) := by decide +kernel
theorem dX9_bestGain_64 : decode cX9_bestGain 64 = .ok (.invokestatic 45, 3) := by decide +kernel
theorem dX9_bestGain_67 : decode cX9_bestGain 67 = .ok (.ifCond .ne 6, 3) := by decide +kernel
theorem dX9_bestGain_70 : decode cX9_bestGain 70 = .ok (.ldc 52, 2) := by decide +kernel
theorem dX9_bestGain_72 : decode cX9_bestGain 72 = .ok (.ireturn, 1) := by decide +kernel
theorem dX9_bestGain_73 : decode cX9_bestGain 73 = .ok (.iload_n 2, 1) := by decide +kernel
theorem dX9_bestGain_74 : decode cX9_bestGain 74 = .ok (.istore 6, 2) := by decide +kernel
theorem dX9_bestGain_76 : decode cX9_bestGain 76 = .ok (.aload_n 0, 1) := by decide +kernel
theorem dX9_bestGain_77 : decode cX9_bestGain 77 = .ok (.iload_n 1, 1) := by decide +kernel
theorem dX9_bestGain_78 : decode cX9_bestGain 78 = .ok (.iconst 4, 1) := by decide +kernel
theorem dX9_bestGain_79 : decode cX9_bestGain 79 = .ok (.iload_n 2, 1) := by decide +kernel
theorem dX9_bestGain_80 : decode cX9_bestGain 80 = .ok (.iload 5, 2) := by decide +kernel
theorem dX9_bestGain_82 : decode cX9_bestGain 82 = .ok (.invokevirtual 146, 3) := by decide +kernel
theorem dX9_bestGain_85 : decode cX9_bestGain 85 = .ok (.istore 7, 2) := by decide +kernel
theorem dX9_bestGain_87 : decode cX9_bestGain 87 = .ok (.iconst 1, 1) := by decide +kernel
theorem dX9_bestGain_88 : decode cX9_bestGain 88 = .ok (.istore 8, 2) := by decide +kernel
theorem dX9_bestGain_90 : decode cX9_bestGain 90 = .ok (.iload 8, 2) := by decide +kernel
theorem dX9_bestGain_92 : decode cX9_bestGain 92 = .ok (.iload 4, 2) := by decide +kernel
theorem dX9_bestGain_94 : decode cX9_bestGain 94 = .ok (.if_icmp .ge 61, 3) := by decide +kernel
theorem dX9_bestGain_97 : decode cX9_bestGain 97 = .ok (.aload_n 0, 1) := by decide +kernel
theorem dX9_bestGain_98 : decode cX9_bestGain 98 = .ok (.iload_n 1, 1) := by decide +kernel
theorem dX9_bestGain_99 : decode cX9_bestGain 99 = .ok (.iconst 4, 1) := by decide +kernel
theorem dX9_bestGain_100 : decode cX9_bestGain 100 = .ok (.iload_n 2, 1) := by decide +kernel
theorem dX9_bestGain_101 : decode cX9_bestGain 101 = .ok (.iload_n 3, 1) := by decide +kernel
theorem dX9_bestGain_102 : decode cX9_bestGain 102 = .ok (.iload 8, 2) := by decide +kernel
theorem dX9_bestGain_104 : decode cX9_bestGain 104 = .ok (.imul, 1) := by decide +kernel
theorem dX9_bestGain_105 : decode cX9_bestGain 105 = .ok (.iadd, 1) := by decide +kernel
theorem dX9_bestGain_106 : decode cX9_bestGain 106 = .ok (.iload 5, 2) := by decide +kernel
theorem dX9_bestGain_108 : decode cX9_bestGain 108 = .ok (.invokevirtual 146, 3) := by decide +kernel
theorem dX9_bestGain_111 : decode cX9_bestGain 111 = .ok (.istore 9, 2) := by decide +kernel
theorem dX9_bestGain_113 : decode cX9_bestGain 113 = .ok (.iload 9, 2) := by decide +kernel
theorem dX9_bestGain_115 : decode cX9_bestGain 115 = .ok (.iload 7, 2) := by decide +kernel
theorem dX9_bestGain_117 : decode cX9_bestGain 117 = .ok (.if_icmp .ge 12, 3) := by decide +kernel
theorem dX9_bestGain_120 : decode cX9_bestGain 120 = .ok (.iload_n 2, 1) := by decide +kernel
theorem dX9_bestGain_121 : decode cX9_bestGain 121 = .ok (.iload_n 3, 1) := by decide +kernel
theorem dX9_bestGain_122 : decode cX9_bestGain 122 = .ok (.iload 8, 2) := by decide +kernel
theorem dX9_bestGain_124 : decode cX9_bestGain 124 = .ok (.imul, 1) := by decide +kernel
theorem dX9_bestGain_125 : decode cX9_bestGain 125 = .ok (.iadd, 1) := by decide +kernel
theorem dX9_bestGain_126 : decode cX9_bestGain 126 = .ok (.goto 5, 3) := by decide +kernel
theorem dX9_bestGain_129 : decode cX9_bestGain 129 = .ok (.iload 6, 2) := by decide +kernel
theorem dX9_bestGain_131 : decode cX9_bestGain 131 = .ok (.istore 6, 2) := by decide +kernel
theorem dX9_bestGain_133 : decode cX9_bestGain 133 = .ok (.iload 9, 2) := by decide +kernel
theorem dX9_bestGain_135 : decode cX9_bestGain 135 = .ok (.iload 7, 2) := by decide +kernel
theorem dX9_bestGain_137 : decode cX9_bestGain 137 = .ok (.if_icmp .ge 8, 3) := by decide +kernel
theorem dX9_bestGain_140 : decode cX9_bestGain 140 = .ok (.iload 9, 2) := by decide +kernel
theorem dX9_bestGain_142 : decode cX9_bestGain 142 = .ok (.goto 5, 3) := by decide +kernel
theorem dX9_bestGain_145 : decode cX9_bestGain 145 = .ok (.iload 7, 2) := by decide +kernel
theorem dX9_bestGain_147 : decode cX9_bestGain 147 = .ok (.istore 7, 2) := by decide +kernel
theorem dX9_bestGain_149 : decode cX9_bestGain 149 = .ok (.iinc 8 1, 3) := by decide +kernel
theorem dX9_bestGain_152 : decode cX9_bestGain 152 = .ok (.goto (-62), 3) := by decide +kernel
theorem dX9_bestGain_155 : decode cX9_bestGain 155 = .ok (.iload 6, 2) := by decide +kernel
theorem dX9_bestGain_157 : decode cX9_bestGain 157 = .ok (.ireturn, 1) := by decide +kernel
theorem dX9_put_0 : decode cX9_put 0 = .ok (.iconst 0, 1) := by decide +kernel
theorem dX9_put_1 : decode cX9_put 1 = .ok (.istore_n 3, 1) := by decide +kernel
theorem dX9_put_2 : decode cX9_put 2 = .ok (.lload_n 1, 1) := by decide +kernel
theorem dX9_put_3 : decode cX9_put 3 = .ok (.lstore 4, 2) := by decide +kernel
theorem dX9_put_5 : decode cX9_put 5 = .ok (.iload_n 3, 1) := by decide +kernel
theorem dX9_put_6 : decode cX9_put 6 = .ok (.bipush 8, 2) := by decide +kernel
theorem dX9_put_8 : decode cX9_put 8 = .ok (.if_icmp .ge 47, 3) := by decide +kernel
theorem dX9_put_11 : decode cX9_put 11 = .ok (.lload 4, 2) := by decide +kernel
theorem dX9_put_13 : decode cX9_put 13 = .ok (.ldc2_w 150, 3) := by decide +kernel
theorem dX9_put_16 : decode cX9_put 16 = .ok (.land, 1) := by decide +kernel
theorem dX9_put_17 : decode cX9_put 17 = .ok (.lconst 0, 1) := by decide +kernel
theorem dX9_put_18 : decode cX9_put 18 = .ok (.lcmp, 1) := by decide +kernel
theorem dX9_put_19 : decode cX9_put 19 = .ok (.ifCond .eq 36, 3) := by decide +kernel
theorem dX9_put_22 : decode cX9_put 22 = .ok (.lload 4, 2) := by decide +kernel
theorem dX9_put_24 : decode cX9_put 24 = .ok (.ldc2_w 150, 3) := by decide +kernel
theorem dX9_put_27 : decode cX9_put 27 = .ok (.land, 1) := by decide +kernel
theorem dX9_put_28 : decode cX9_put 28 = .ok (.l2i, 1) := by decide +kernel
theorem dX9_put_29 : decode cX9_put 29 = .ok (.bipush 33, 2) := by decide +kernel
theorem dX9_put_31 : decode cX9_put 31 = .ok (.bipush 126, 2) := by decide +kernel
theorem dX9_put_33 : decode cX9_put 33 = .ok (.invokestatic 45, 3) := by decide +kernel
theorem dX9_put_36 : decode cX9_put 36 = .ok (.ifCond .ne 6, 3) := by decide +kernel
theorem dX9_put_39 : decode cX9_put 39 = .ok (.ldc 52, 2) := by decide +kernel
theorem dX9_put_41 : decode cX9_put 41 = .ok (.ireturn, 1) := by decide +kernel
theorem dX9_put_42 : decode cX9_put 42 = .ok (.iinc 3 1, 3) := by decide +kernel
theorem dX9_put_45 : decode cX9_put 45 = .ok (.lload 4, 2) := by decide +kernel
theorem dX9_put_47 : decode cX9_put 47 = .ok (.bipush 8, 2) := by decide +kernel
theorem dX9_put_49 : decode cX9_put 49 = .ok (.lushr, 1) := by decide +kernel
theorem dX9_put_50 : decode cX9_put 50 = .ok (.lstore 4, 2) := by decide +kernel
theorem dX9_put_52 : decode cX9_put 52 = .ok (.goto (-47), 3) := by decide +kernel
theorem dX9_put_55 : decode cX9_put 55 = .ok (.iload_n 3, 1) := by decide +kernel
theorem dX9_put_56 : decode cX9_put 56 = .ok (.ifCond .eq 10, 3) := by decide +kernel
theorem dX9_put_59 : decode cX9_put 59 = .ok (.lload 4, 2) := by decide +kernel
theorem dX9_put_61 : decode cX9_put 61 = .ok (.lconst 0, 1) := by decide +kernel
theorem dX9_put_62 : decode cX9_put 62 = .ok (.lcmp, 1) := by decide +kernel
theorem dX9_put_63 : decode cX9_put 63 = .ok (.ifCond .eq 6, 3) := by decide +kernel
theorem dX9_put_66 : decode cX9_put 66 = .ok (.ldc 52, 2) := by decide +kernel
theorem dX9_put_68 : decode cX9_put 68 = .ok (.ireturn, 1) := by decide +kernel
theorem dX9_put_69 : decode cX9_put 69 = .ok (.aload_n 0, 1) := by decide +kernel
theorem dX9_put_70 : decode cX9_put 70 = .ok (.getfield 152, 3) := by decide +kernel
theorem dX9_put_73 : decode cX9_put 73 = .ok (.iload_n 3, 1) := by decide +kernel
theorem dX9_put_74 : decode cX9_put 74 = .ok (.iadd, 1) := by decide +kernel
theorem dX9_put_75 : decode cX9_put 75 = .ok (.bipush 80, 2) := by decide +kernel
theorem dX9_put_77 : decode cX9_put 77 = .ok (.if_icmp .le 6, 3) := by decide +kernel
theorem dX9_put_80 : decode cX9_put 80 = .ok (.ldc 156, 2) := by decide +kernel
theorem dX9_put_82 : decode cX9_put 82 = .ok (.ireturn, 1) := by decide +kernel
theorem dX9_put_83 : decode cX9_put 83 = .ok (.iconst 0, 1) := by decide +kernel
theorem dX9_put_84 : decode cX9_put 84 = .ok (.istore 6, 2) := by decide +kernel
theorem dX9_put_86 : decode cX9_put 86 = .ok (.iload 6, 2) := by decide +kernel
theorem dX9_put_88 : decode cX9_put 88 = .ok (.iload_n 3, 1) := by decide +kernel
theorem dX9_put_89 : decode cX9_put 89 = .ok (.if_icmp .ge 37, 3) := by decide +kernel
theorem dX9_put_92 : decode cX9_put 92 = .ok (.aload_n 0, 1) := by decide +kernel
theorem dX9_put_93 : decode cX9_put 93 = .ok (.getfield 23, 3) := by decide +kernel
theorem dX9_put_96 : decode cX9_put 96 = .ok (.aload_n 0, 1) := by decide +kernel
theorem dX9_put_97 : decode cX9_put 97 = .ok (.getfield 152, 3) := by decide +kernel
theorem dX9_put_100 : decode cX9_put 100 = .ok (.iload 6, 2) := by decide +kernel
theorem dX9_put_102 : decode cX9_put 102 = .ok (.iadd, 1) := by decide +kernel
theorem dX9_put_103 : decode cX9_put 103 = .ok (.lload_n 1, 1) := by decide +kernel
theorem dX9_put_104 : decode cX9_put 104 = .ok (.bipush 8, 2) := by decide +kernel
theorem dX9_put_106 : decode cX9_put 106 = .ok (.iload_n 3, 1) := by decide +kernel
theorem dX9_put_107 : decode cX9_put 107 = .ok (.iconst 1, 1) := by decide +kernel
theorem dX9_put_108 : decode cX9_put 108 = .ok (.isub, 1) := by decide +kernel
theorem dX9_put_109 : decode cX9_put 109 = .ok (.iload 6, 2) := by decide +kernel
theorem dX9_put_111 : decode cX9_put 111 = .ok (.isub, 1) := by decide +kernel
theorem dX9_put_112 : decode cX9_put 112 = .ok (.imul, 1) := by decide +kernel
theorem dX9_put_113 : decode cX9_put 113 = .ok (.lshr, 1) := by decide +kernel
theorem dX9_put_114 : decode cX9_put 114 = .ok (.ldc2_w 150, 3) := by decide +kernel
theorem dX9_put_117 : decode cX9_put 117 = .ok (.land, 1) := by decide +kernel
theorem dX9_put_118 : decode cX9_put 118 = .ok (.l2i, 1) := by decide +kernel
theorem dX9_put_119 : decode cX9_put 119 = .ok (.iastore, 1) := by decide +kernel
theorem dX9_put_120 : decode cX9_put 120 = .ok (.iinc 6 1, 3) := by decide +kernel
theorem dX9_put_123 : decode cX9_put 123 = .ok (.goto (-37), 3) := by decide +kernel
theorem dX9_put_126 : decode cX9_put 126 = .ok (.aload_n 0, 1) := by decide +kernel
theorem dX9_put_127 : decode cX9_put 127 = .ok (.dup, 1) := by decide +kernel
theorem dX9_put_128 : decode cX9_put 128 = .ok (.getfield 152, 3) := by decide +kernel
theorem dX9_put_131 : decode cX9_put 131 = .ok (.iload_n 3, 1) := by decide +kernel
theorem dX9_put_132 : decode cX9_put 132 = .ok (.iadd, 1) := by decide +kernel
theorem dX9_put_133 : decode cX9_put 133 = .ok (.putfield 152, 3) := by decide +kernel
theorem dX9_put_136 : decode cX9_put 136 = .ok (.aload_n 0, 1) := by decide +kernel
theorem dX9_put_137 : decode cX9_put 137 = .ok (.getfield 152, 3) := by decide +kernel
theorem dX9_put_140 : decode cX9_put 140 = .ok (.ireturn, 1) := by decide +kernel
theorem dX9_wipe_0 : decode cX9_wipe 0 = .ok (.aload_n 0, 1) := by decide +kernel
theorem dX9_wipe_1 : decode cX9_wipe 1 = .ok (.getfield 152, 3) := by decide +kernel
theorem dX9_wipe_4 : decode cX9_wipe 4 = .ok (.istore_n 1, 1) := by decide +kernel
theorem dX9_wipe_5 : decode cX9_wipe 5 = .ok (.aload_n 0, 1) := by decide +kernel
theorem dX9_wipe_6 : decode cX9_wipe 6 = .ok (.iconst 0, 1) := by decide +kernel
theorem dX9_wipe_7 : decode cX9_wipe 7 = .ok (.putfield 152, 3) := by decide +kernel
theorem dX9_wipe_10 : decode cX9_wipe 10 = .ok (.iload_n 1, 1) := by decide +kernel
theorem dX9_wipe_11 : decode cX9_wipe 11 = .ok (.ireturn, 1) := by decide +kernel
theorem dX9_next_0 : decode cX9_next 0 = .ok (.aload_n 0, 1) := by decide +kernel
theorem dX9_next_1 : decode cX9_next 1 = .ok (.getfield 157, 3) := by decide +kernel
theorem dX9_next_4 : decode cX9_next 4 = .ok (.aload_n 0, 1) := by decide +kernel
theorem dX9_next_5 : decode cX9_next 5 = .ok (.getfield 152, 3) := by decide +kernel
theorem dX9_next_8 : decode cX9_next 8 = .ok (.if_icmp .ge 15, 3) := by decide +kernel
theorem dX9_next_11 : decode cX9_next 11 = .ok (.aload_n 0, 1) := by decide +kernel
theorem dX9_next_12 : decode cX9_next 12 = .ok (.getfield 23, 3) := by decide +kernel
theorem dX9_next_15 : decode cX9_next 15 = .ok (.aload_n 0, 1) := by decide +kernel
theorem dX9_next_16 : decode cX9_next 16 = .ok (.getfield 157, 3) := by decide +kernel
theorem dX9_next_19 : decode cX9_next 19 = .ok (.iaload, 1) := by decide +kernel
theorem dX9_next_20 : decode cX9_next 20 = .ok (.goto 4, 3) := by decide +kernel
theorem dX9_next_23 : decode cX9_next 23 = .ok (.iconst 0, 1) := by decide +kernel
theorem dX9_next_24 : decode cX9_next 24 = .ok (.ireturn, 1) := by decide +kernel
theorem dX9_need_0 : decode cX9_need 0 = .ok (.aload_n 0, 1) := by decide +kernel
theorem dX9_need_1 : decode cX9_need 1 = .ok (.aload_n 0, 1) := by decide +kernel
theorem dX9_need_2 : decode cX9_need 2 = .ok (.getfield 160, 3) := by decide +kernel
theorem dX9_need_5 : decode cX9_need 5 = .ok (.ifCond .ne 11, 3) := by decide +kernel
theorem dX9_need_8 : decode cX9_need 8 = .ok (.aload_n 0, 1) := by decide +kernel
theorem dX9_need_9 : decode cX9_need 9 = .ok (.invokevirtual 164, 3) := by decide +kernel
theorem dX9_need_12 : decode cX9_need 12 = .ok (.iload_n 1, 1) := by decide +kernel
theorem dX9_need_13 : decode cX9_need 13 = .ok (.if_icmp .eq 7, 3) := by decide +kernel
theorem dX9_need_16 : decode cX9_need 16 = .ok (.iconst 1, 1) := by decide +kernel
theorem dX9_need_17 : decode cX9_need 17 = .ok (.goto 4, 3) := by decide +kernel
theorem dX9_need_20 : decode cX9_need 20 = .ok (.iconst 0, 1) := by decide +kernel
theorem dX9_need_21 : decode cX9_need 21 = .ok (.putfield 160, 3) := by decide +kernel
theorem dX9_need_24 : decode cX9_need 24 = .ok (.aload_n 0, 1) := by decide +kernel
theorem dX9_need_25 : decode cX9_need 25 = .ok (.dup, 1) := by decide +kernel
theorem dX9_need_26 : decode cX9_need 26 = .ok (.getfield 157, 3) := by decide +kernel
theorem dX9_need_29 : decode cX9_need 29 = .ok (.aload_n 0, 1) := by decide +kernel
theorem dX9_need_30 : decode cX9_need 30 = .ok (.getfield 160, 3) := by decide +kernel
theorem dX9_need_33 : decode cX9_need 33 = .ok (.ifCond .eq 7, 3) := by decide +kernel
theorem dX9_need_36 : decode cX9_need 36 = .ok (.iconst 0, 1) := by decide +kernel
theorem dX9_need_37 : decode cX9_need 37 = .ok (.goto 4, 3) := by decide +kernel
theorem dX9_need_40 : decode cX9_need 40 = .ok (.iconst 1, 1) := by decide +kernel
theorem dX9_need_41 : decode cX9_need 41 = .ok (.iadd, 1) := by decide +kernel
theorem dX9_need_42 : decode cX9_need 42 = .ok (.putfield 157, 3) := by decide +kernel
theorem dX9_need_45 : decode cX9_need 45 = .ok (.return_, 1) := by decide +kernel
theorem dX9_readNumber_0 : decode cX9_readNumber 0 = .ok (.aload_n 0, 1) := by decide +kernel
theorem dX9_readNumber_1 : decode cX9_readNumber 1 = .ok (.getfield 160, 3) := by decide +kernel
theorem dX9_readNumber_4 : decode cX9_readNumber 4 = .ok (.ifCond .ne 19, 3) := by decide +kernel
theorem dX9_readNumber_7 : decode cX9_readNumber 7 = .ok (.aload_n 0, 1) := by decide +kernel
theorem dX9_readNumber_8 : decode cX9_readNumber 8 = .ok (.invokevirtual 164, 3) := by decide +kernel
theorem dX9_readNumber_11 : decode cX9_readNumber 11 = .ok (.bipush 48, 2) := by decide +kernel
theorem dX9_readNumber_13 : decode cX9_readNumber 13 = .ok (.iload_n 1, 1) := by decide +kernel
theorem dX9_readNumber_14 : decode cX9_readNumber 14 = .ok (.iadd, 1) := by decide +kernel
theorem dX9_readNumber_15 : decode cX9_readNumber 15 = .ok (.bipush 57, 2) := by decide +kernel
theorem dX9_readNumber_17 : decode cX9_readNumber 17 = .ok (.invokestatic 45, 3) := by decide +kernel
theorem dX9_readNumber_20 : decode cX9_readNumber 20 = .ok (.ifCond .ne 10, 3) := by decide +kernel
theorem dX9_readNumber_23 : decode cX9_readNumber 23 = .ok (.aload_n 0, 1) := by decide +kernel
theorem dX9_readNumber_24 : decode cX9_readNumber 24 = .ok (.iconst 1, 1) := by decide +kernel
theorem dX9_readNumber_25 : decode cX9_readNumber 25 = .ok (.putfield 160, 3) := by decide +kernel
theorem dX9_readNumber_28 : decode cX9_readNumber 28 = .ok (.iconst 0, 1) := by decide +kernel
theorem dX9_readNumber_29 : decode cX9_readNumber 29 = .ok (.ireturn, 1) := by decide +kernel
theorem dX9_readNumber_30 : decode cX9_readNumber 30 = .ok (.aload_n 0, 1) := by decide +kernel
theorem dX9_readNumber_31 : decode cX9_readNumber 31 = .ok (.invokevirtual 164, 3) := by decide +kernel
theorem dX9_readNumber_34 : decode cX9_readNumber 34 = .ok (.bipush 48, 2) := by decide +kernel
theorem dX9_readNumber_36 : decode cX9_readNumber 36 = .ok (.isub, 1) := by decide +kernel
theorem dX9_readNumber_37 : decode cX9_readNumber 37 = .ok (.istore_n 3, 1) := by decide +kernel
theorem dX9_readNumber_38 : decode cX9_readNumber 38 = .ok (.aload_n 0, 1) := by decide +kernel
theorem dX9_readNumber_39 : decode cX9_readNumber 39 = .ok (.dup, 1) := by decide +kernel
theorem dX9_readNumber_40 : decode cX9_readNumber 40 = .ok (.getfield 157, 3) := by decide +kernel
theorem dX9_readNumber_43 : decode cX9_readNumber 43 = .ok (.iconst 1, 1) := by decide +kernel
theorem dX9_readNumber_44 : decode cX9_readNumber 44 = .ok (.iadd, 1) := by decide +kernel
theorem dX9_readNumber_45 : decode cX9_readNumber 45 = .ok (.putfield 157, 3) := by decide +kernel
theorem dX9_readNumber_48 : decode cX9_readNumber 48 = .ok (.iload_n 3, 1) := by decide +kernel
theorem dX9_readNumber_49 : decode cX9_readNumber 49 = .ok (.ifCond .le 59, 3) := by decide +kernel
theorem dX9_readNumber_52 : decode cX9_readNumber 52 = .ok (.aload_n 0, 1) := by decide +kernel
theorem dX9_readNumber_53 : decode cX9_readNumber 53 = .ok (.invokevirtual 164, 3) := by decide +kernel
theorem dX9_readNumber_56 : decode cX9_readNumber 56 = .ok (.bipush 48, 2) := by decide +kernel
theorem dX9_readNumber_58 : decode cX9_readNumber 58 = .ok (.bipush 57, 2) := by decide +kernel
theorem dX9_readNumber_60 : decode cX9_readNumber 60 = .ok (.invokestatic 45, 3) := by decide +kernel
theorem dX9_readNumber_63 : decode cX9_readNumber 63 = .ok (.ifCond .eq 45, 3) := by decide +kernel
theorem dX9_readNumber_66 : decode cX9_readNumber 66 = .ok (.bipush 10, 2) := by decide +kernel
theorem dX9_readNumber_68 : decode cX9_readNumber 68 = .ok (.iload_n 3, 1) := by decide +kernel
theorem dX9_readNumber_69 : decode cX9_readNumber 69 = .ok (.imul, 1) := by decide +kernel
theorem dX9_readNumber_70 : decode cX9_readNumber 70 = .ok (.aload_n 0, 1) := by decide +kernel
theorem dX9_readNumber_71 : decode cX9_readNumber 71 = .ok (.invokevirtual 164, 3) := by decide +kernel
theorem dX9_readNumber_74 : decode cX9_readNumber 74 = .ok (.iadd, 1) := by decide +kernel
theorem dX9_readNumber_75 : decode cX9_readNumber 75 = .ok (.bipush 48, 2) := by decide +kernel
theorem dX9_readNumber_77 : decode cX9_readNumber 77 = .ok (.isub, 1) := by decide +kernel
theorem dX9_readNumber_78 : decode cX9_readNumber 78 = .ok (.iload_n 2, 1) := by decide +kernel
theorem dX9_readNumber_79 : decode cX9_readNumber 79 = .ok (.if_icmp .gt 29, 3) := by decide +kernel
theorem dX9_readNumber_82 : decode cX9_readNumber 82 = .ok (.bipush 10, 2) := by decide +kernel
theorem dX9_readNumber_84 : decode cX9_readNumber 84 = .ok (.iload_n 3, 1) := by decide +kernel
theorem dX9_readNumber_85 : decode cX9_readNumber 85 = .ok (.imul, 1) := by decide +kernel
theorem dX9_readNumber_86 : decode cX9_readNumber 86 = .ok (.aload_n 0, 1) := by decide +kernel
theorem dX9_readNumber_87 : decode cX9_readNumber 87 = .ok (.invokevirtual 164, 3) := by decide +kernel
theorem dX9_readNumber_90 : decode cX9_readNumber 90 = .ok (.iadd, 1) := by decide +kernel
theorem dX9_readNumber_91 : decode cX9_readNumber 91 = .ok (.bipush 48, 2) := by decide +kernel
theorem dX9_readNumber_93 : decode cX9_readNumber 93 = .ok (.isub, 1) := by decide +kernel
theorem dX9_readNumber_94 : decode cX9_readNumber 94 = .ok (.istore_n 3, 1) := by decide +kernel
theorem dX9_readNumber_95 : decode cX9_readNumber 95 = .ok (.aload_n 0, 1) := by decide +kernel
theorem dX9_readNumber_96 : decode cX9_readNumber 96 = .ok (.dup, 1) := by decide +kernel
theorem dX9_readNumber_97 : decode cX9_readNumber 97 = .ok (.getfield 157, 3) := by decide +kernel
theorem dX9_readNumber_100 : decode cX9_readNumber 100 = .ok (.iconst 1, 1) := by decide +kernel
theorem dX9_readNumber_101 : decode cX9_readNumber 101 = .ok (.iadd, 1) := by decide +kernel
theorem dX9_readNumber_102 : decode cX9_readNumber 102 = .ok (.putfield 157, 3) := by decide +kernel
theorem dX9_readNumber_105 : decode cX9_readNumber 105 = .ok (.goto (-57), 3) := by decide +kernel
theorem dX9_readNumber_108 : decode cX9_readNumber 108 = .ok (.iload_n 3, 1) := by decide +kernel
theorem dX9_readNumber_109 : decode cX9_readNumber 109 = .ok (.ireturn, 1) := by decide +kernel
theorem dX9_readUnit_0 : decode cX9_readUnit 0 = .ok (.aload_n 0, 1) := by decide +kernel
theorem dX9_readUnit_1 : decode cX9_readUnit 1 = .ok (.getfield 160, 3) := by decide +kernel
theorem dX9_readUnit_4 : decode cX9_readUnit 4 = .ok (.ifCond .ne 17, 3) := by decide +kernel
theorem dX9_readUnit_7 : decode cX9_readUnit 7 = .ok (.aload_n 0, 1) := by decide +kernel
theorem dX9_readUnit_8 : decode cX9_readUnit 8 = .ok (.invokevirtual 164, 3) := by decide +kernel
theorem dX9_readUnit_11 : decode cX9_readUnit 11 = .ok (.bipush 48, 2) := by decide +kernel
theorem dX9_readUnit_13 : decode cX9_readUnit 13 = .ok (.bipush 52, 2) := by decide +kernel
theorem dX9_readUnit_15 : decode cX9_readUnit 15 = .ok (.invokestatic 45, 3) := by decide +kernel
theorem dX9_readUnit_18 : decode cX9_readUnit 18 = .ok (.ifCond .ne 10, 3) := by decide +kernel
theorem dX9_readUnit_21 : decode cX9_readUnit 21 = .ok (.aload_n 0, 1) := by decide +kernel
theorem dX9_readUnit_22 : decode cX9_readUnit 22 = .ok (.iconst 1, 1) := by decide +kernel
theorem dX9_readUnit_23 : decode cX9_readUnit 23 = .ok (.putfield 160, 3) := by decide +kernel
theorem dX9_readUnit_26 : decode cX9_readUnit 26 = .ok (.iconst 0, 1) := by decide +kernel
theorem dX9_readUnit_27 : decode cX9_readUnit 27 = .ok (.ireturn, 1) := by decide +kernel
theorem dX9_readUnit_28 : decode cX9_readUnit 28 = .ok (.aload_n 0, 1) := by decide +kernel
theorem dX9_readUnit_29 : decode cX9_readUnit 29 = .ok (.dup, 1) := by decide +kernel
theorem dX9_readUnit_30 : decode cX9_readUnit 30 = .ok (.getfield 157, 3) := by decide +kernel
theorem dX9_readUnit_33 : decode cX9_readUnit 33 = .ok (.iconst 1, 1) := by decide +kernel
theorem dX9_readUnit_34 : decode cX9_readUnit 34 = .ok (.iadd, 1) := by decide +kernel
theorem dX9_readUnit_35 : decode cX9_readUnit 35 = .ok (.putfield 157, 3) := by decide +kernel
theorem dX9_readUnit_38 : decode cX9_readUnit 38 = .ok (.aload_n 0, 1) := by decide +kernel
theorem dX9_readUnit_39 : decode cX9_readUnit 39 = .ok (.getfield 23, 3) := by decide +kernel
theorem dX9_readUnit_42 : decode cX9_readUnit 42 = .ok (.aload_n 0, 1) := by decide +kernel
theorem dX9_readUnit_43 : decode cX9_readUnit 43 = .ok (.getfield 157, 3) := by decide +kernel
theorem dX9_readUnit_46 : decode cX9_readUnit 46 = .ok (.iconst 1, 1) := by decide +kernel
theorem dX9_readUnit_47 : decode cX9_readUnit 47 = .ok (.isub, 1) := by decide +kernel
theorem dX9_readUnit_48 : decode cX9_readUnit 48 = .ok (.iaload, 1) := by decide +kernel
theorem dX9_readUnit_49 : decode cX9_readUnit 49 = .ok (.bipush 48, 2) := by decide +kernel
theorem dX9_readUnit_51 : decode cX9_readUnit 51 = .ok (.isub, 1) := by decide +kernel
theorem dX9_readUnit_52 : decode cX9_readUnit 52 = .ok (.ireturn, 1) := by decide +kernel
theorem dX9_readDisturbance_0 : decode cX9_readDisturbance 0 = .ok (.aload_n 0, 1) := by decide +kernel
theorem dX9_readDisturbance_1 : decode cX9_readDisturbance 1 = .ok (.getfield 160, 3) := by decide +kernel
theorem dX9_readDisturbance_4 : decode cX9_readDisturbance 4 = .ok (.ifCond .ne 16, 3) := by decide +kernel
theorem dX9_readDisturbance_7 : decode cX9_readDisturbance 7 = .ok (.aload_n 0, 1) := by decide +kernel
theorem dX9_readDisturbance_8 : decode cX9_readDisturbance 8 = .ok (.invokevirtual 164, 3) := by decide +kernel
theorem dX9_readDisturbance_11 : decode cX9_readDisturbance 11 = .ok (.bipush 45, 2) := by decide +kernel
theorem dX9_readDisturbance_13 : decode cX9_readDisturbance 13 = .ok (.if_icmp .ne 7, 3) := by decide +kernel
theorem dX9_readDisturbance_16 : decode cX9_readDisturbance 16 = .ok (.iconst 1, 1) := by decide +kernel
theorem dX9_readDisturbance_17 : decode cX9_readDisturbance 17 = .ok (.goto 4, 3) := by decide +kernel
theorem dX9_readDisturbance_20 : decode cX9_readDisturbance 20 = .ok (.iconst 0, 1) := by decide +kernel
theorem dX9_readDisturbance_21 : decode cX9_readDisturbance 21 = .ok (.istore_n 2, 1) := by decide +kernel
theorem dX9_readDisturbance_22 : decode cX9_readDisturbance 22 = .ok (.aload_n 0, 1) := by decide +kernel
theorem dX9_readDisturbance_23 : decode cX9_readDisturbance 23 = .ok (.dup, 1) := by decide +kernel
theorem dX9_readDisturbance_24 : decode cX9_readDisturbance 24 = .ok (.getfield 157, 3) := by decide +kernel
theorem dX9_readDisturbance_27 : decode cX9_readDisturbance 27 = .ok (.iload_n 2, 1) := by decide +kernel
theorem dX9_readDisturbance_28 : decode cX9_readDisturbance 28 = .ok (.ifCond .eq 7, 3) := by decide +kernel
theorem dX9_readDisturbance_31 : decode cX9_readDisturbance 31 = .ok (.iconst 1, 1) := by decide +kernel
theorem dX9_readDisturbance_32 : decode cX9_readDisturbance 32 = .ok (.goto 4, 3) := by decide +kernel
theorem dX9_readDisturbance_35 : decode cX9_readDisturbance 35 = .ok (.iconst 0, 1) := by decide +kernel
theorem dX9_readDisturbance_36 : decode cX9_readDisturbance 36 = .ok (.iadd, 1) := by decide +kernel
theorem dX9_readDisturbance_37 : decode cX9_readDisturbance 37 = .ok (.putfield 157, 3) := by decide +kernel
theorem dX9_readDisturbance_40 : decode cX9_readDisturbance 40 = .ok (.aload_n 0, 1) := by decide +kernel
theorem dX9_readDisturbance_41 : decode cX9_readDisturbance 41 = .ok (.iconst 0, 1) := by decide +kernel
theorem dX9_readDisturbance_42 : decode cX9_readDisturbance 42 = .ok (.sipush 3000, 3) := by decide +kernel
theorem dX9_readDisturbance_45 : decode cX9_readDisturbance 45 = .ok (.invokevirtual 168, 3) := by decide +kernel
theorem dX9_readDisturbance_48 : decode cX9_readDisturbance 48 = .ok (.istore_n 3, 1) := by decide +kernel
theorem dX9_readDisturbance_49 : decode cX9_readDisturbance 49 = .ok (.aload_n 0, 1) := by decide +kernel
theorem dX9_readDisturbance_50 : decode cX9_readDisturbance 50 = .ok (.getfield 26, 3) := by decide +kernel
theorem dX9_readDisturbance_53 : decode cX9_readDisturbance 53 = .ok (.iload_n 1, 1) := by decide +kernel
theorem dX9_readDisturbance_54 : decode cX9_readDisturbance 54 = .ok (.iconst 2, 1) := by decide +kernel
theorem dX9_readDisturbance_55 : decode cX9_readDisturbance 55 = .ok (.iadd, 1) := by decide +kernel
theorem dX9_readDisturbance_56 : decode cX9_readDisturbance 56 = .ok (.iload_n 2, 1) := by decide +kernel
theorem dX9_readDisturbance_57 : decode cX9_readDisturbance 57 = .ok (.ifCond .eq 8, 3) := by decide +kernel
theorem dX9_readDisturbance_60 : decode cX9_readDisturbance 60 = .ok (.iload_n 3, 1) := by decide +kernel
theorem dX9_readDisturbance_61 : decode cX9_readDisturbance 61 = .ok (.ineg, 1) := by decide +kernel
theorem dX9_readDisturbance_62 : decode cX9_readDisturbance 62 = .ok (.goto 4, 3) := by decide +kernel
theorem dX9_readDisturbance_65 : decode cX9_readDisturbance 65 = .ok (.iload_n 3, 1) := by decide +kernel
theorem dX9_readDisturbance_66 : decode cX9_readDisturbance 66 = .ok (.iastore, 1) := by decide +kernel
theorem dX9_readDisturbance_67 : decode cX9_readDisturbance 67 = .ok (.aload_n 0, 1) := by decide +kernel
theorem dX9_readDisturbance_68 : decode cX9_readDisturbance 68 = .ok (.bipush 47, 2) := by decide +kernel
theorem dX9_readDisturbance_70 : decode cX9_readDisturbance 70 = .ok (.invokevirtual 171, 3) := by decide +kernel
theorem dX9_readDisturbance_73 : decode cX9_readDisturbance 73 = .ok (.aload_n 0, 1) := by decide +kernel
theorem dX9_readDisturbance_74 : decode cX9_readDisturbance 74 = .ok (.getfield 26, 3) := by decide +kernel
theorem dX9_readDisturbance_77 : decode cX9_readDisturbance 77 = .ok (.iload_n 1, 1) := by decide +kernel
theorem dX9_readDisturbance_78 : decode cX9_readDisturbance 78 = .ok (.iconst 3, 1) := by decide +kernel
theorem dX9_readDisturbance_79 : decode cX9_readDisturbance 79 = .ok (.iadd, 1) := by decide +kernel
theorem dX9_readDisturbance_80 : decode cX9_readDisturbance 80 = .ok (.aload_n 0, 1) := by decide +kernel
theorem dX9_readDisturbance_81 : decode cX9_readDisturbance 81 = .ok (.iconst 1, 1) := by decide +kernel
theorem dX9_readDisturbance_82 : decode cX9_readDisturbance 82 = .ok (.bipush 50, 2) := by decide +kernel
theorem dX9_readDisturbance_84 : decode cX9_readDisturbance 84 = .ok (.invokevirtual 168, 3) := by decide +kernel
theorem dX9_readDisturbance_87 : decode cX9_readDisturbance 87 = .ok (.iastore, 1) := by decide +kernel
theorem dX9_readDisturbance_88 : decode cX9_readDisturbance 88 = .ok (.return_, 1) := by decide +kernel
theorem dX9_readStep_0 : decode cX9_readStep 0 = .ok (.aload_n 0, 1) := by decide +kernel
theorem dX9_readStep_1 : decode cX9_readStep 1 = .ok (.invokevirtual 164, 3) := by decide +kernel
theorem dX9_readStep_4 : decode cX9_readStep 4 = .ok (.istore_n 1, 1) := by decide +kernel
theorem dX9_readStep_5 : decode cX9_readStep 5 = .ok (.iconst 4, 1) := by decide +kernel
theorem dX9_readStep_6 : decode cX9_readStep 6 = .ok (.aload_n 0, 1) := by decide +kernel
theorem dX9_readStep_7 : decode cX9_readStep 7 = .ok (.getfield 174, 3) := by decide +kernel
theorem dX9_readStep_10 : decode cX9_readStep 10 = .ok (.imul, 1) := by decide +kernel
theorem dX9_readStep_11 : decode cX9_readStep 11 = .ok (.istore_n 2, 1) := by decide +kernel
theorem dX9_readStep_12 : decode cX9_readStep 12 = .ok (.iload_n 1, 1) := by decide +kernel
theorem dX9_readStep_13 : decode cX9_readStep 13 = .ok (.bipush 110, 2) := by decide +kernel
theorem dX9_readStep_15 : decode cX9_readStep 15 = .ok (.if_icmp .eq 27, 3) := by decide +kernel
theorem dX9_readStep_18 : decode cX9_readStep 18 = .ok (.iload_n 1, 1) := by decide +kernel
theorem dX9_readStep_19 : decode cX9_readStep 19 = .ok (.bipush 118, 2) := by decide +kernel
theorem dX9_readStep_21 : decode cX9_readStep 21 = .ok (.if_icmp .eq 21, 3) := by decide +kernel
theorem dX9_readStep_24 : decode cX9_readStep 24 = .ok (.iload_n 1, 1) := by decide +kernel
theorem dX9_readStep_25 : decode cX9_readStep 25 = .ok (.bipush 100, 2) := by decide +kernel
theorem dX9_readStep_27 : decode cX9_readStep 27 = .ok (.if_icmp .eq 15, 3) := by decide +kernel
theorem dX9_readStep_30 : decode cX9_readStep 30 = .ok (.iload_n 1, 1) := by decide +kernel
theorem dX9_readStep_31 : decode cX9_readStep 31 = .ok (.bipush 112, 2) := by decide +kernel
theorem dX9_readStep_33 : decode cX9_readStep 33 = .ok (.if_icmp .eq 9, 3) := by decide +kernel
theorem dX9_readStep_36 : decode cX9_readStep 36 = .ok (.aload_n 0, 1) := by decide +kernel
theorem dX9_readStep_37 : decode cX9_readStep 37 = .ok (.iconst 1, 1) := by decide +kernel
theorem dX9_readStep_38 : decode cX9_readStep 38 = .ok (.putfield 160, 3) := by decide +kernel
theorem dX9_readStep_41 : decode cX9_readStep 41 = .ok (.return_, 1) := by decide +kernel
theorem dX9_readStep_42 : decode cX9_readStep 42 = .ok (.aload_n 0, 1) := by decide +kernel
theorem dX9_readStep_43 : decode cX9_readStep 43 = .ok (.dup, 1) := by decide +kernel
theorem dX9_readStep_44 : decode cX9_readStep 44 = .ok (.getfield 157, 3) := by decide +kernel
theorem dX9_readStep_47 : decode cX9_readStep 47 = .ok (.iconst 1, 1) := by decide +kernel
theorem dX9_readStep_48 : decode cX9_readStep 48 = .ok (.iadd, 1) := by decide +kernel
theorem dX9_readStep_49 : decode cX9_readStep 49 = .ok (.putfield 157, 3) := by decide +kernel
theorem dX9_readStep_52 : decode cX9_readStep 52 = .ok (.aload_n 0, 1) := by decide +kernel
theorem dX9_readStep_53 : decode cX9_readStep 53 = .ok (.getfield 26, 3) := by decide +kernel
theorem dX9_readStep_56 : decode cX9_readStep 56 = .ok (.iload_n 2, 1) := by decide +kernel
theorem dX9_readStep_57 : decode cX9_readStep 57 = .ok (.iload_n 1, 1) := by decide +kernel
theorem dX9_readStep_58 : decode cX9_readStep 58 = .ok (.iastore, 1) := by decide +kernel
theorem dX9_readStep_59 : decode cX9_readStep 59 = .ok (.aload_n 0, 1) := by decide +kernel
theorem dX9_readStep_60 : decode cX9_readStep 60 = .ok (.getfield 26, 3) := by decide +kernel
theorem dX9_readStep_63 : decode cX9_readStep 63 = .ok (.iload_n 2, 1) := by decide +kernel
theorem dX9_readStep_64 : decode cX9_readStep 64 = .ok (.iconst 1, 1) := by decide +kernel
theorem dX9_readStep_65 : decode cX9_readStep 65 = .ok (.iadd, 1) := by decide +kernel
theorem dX9_readStep_66 : decode cX9_readStep 66 = .ok (.iconst 0, 1) := by decide +kernel
theorem dX9_readStep_67 : decode cX9_readStep 67 = .ok (.iastore, 1) := by decide +kernel
theorem dX9_readStep_68 : decode cX9_readStep 68 = .ok (.iload_n 1, 1) := by decide +kernel
theorem dX9_readStep_69 : decode cX9_readStep 69 = .ok (.bipush 110, 2) := by decide +kernel
theorem dX9_readStep_71 : decode cX9_readStep 71 = .ok (.if_icmp .ne 21, 3) := by decide +kernel
theorem dX9_readStep_74 : decode cX9_readStep 74 = .ok (.aload_n 0, 1) := by decide +kernel
theorem dX9_readStep_75 : decode cX9_readStep 75 = .ok (.getfield 26, 3) := by decide +kernel
theorem dX9_readStep_78 : decode cX9_readStep 78 = .ok (.iload_n 2, 1) := by decide +kernel
theorem dX9_readStep_79 : decode cX9_readStep 79 = .ok (.iconst 2, 1) := by decide +kernel
theorem dX9_readStep_80 : decode cX9_readStep 80 = .ok (.iadd, 1) := by decide +kernel
theorem dX9_readStep_81 : decode cX9_readStep 81 = .ok (.aload_n 0, 1) := by decide +kernel
theorem dX9_readStep_82 : decode cX9_readStep 82 = .ok (.iconst 1, 1) := by decide +kernel
theorem dX9_readStep_83 : decode cX9_readStep 83 = .ok (.bipush 99, 2) := by decide +kernel
theorem dX9_readStep_85 : decode cX9_readStep 85 = .ok (.invokevirtual 168, 3) := by decide +kernel
theorem dX9_readStep_88 : decode cX9_readStep 88 = .ok (.iastore, 1) := by decide +kernel
theorem dX9_readStep_89 : decode cX9_readStep 89 = .ok (.goto 57, 3) := by decide +kernel
theorem dX9_readStep_92 : decode cX9_readStep 92 = .ok (.iload_n 1, 1) := by decide +kernel
theorem dX9_readStep_93 : decode cX9_readStep 93 = .ok (.bipush 118, 2) := by decide +kernel
theorem dX9_readStep_95 : decode cX9_readStep 95 = .ok (.if_icmp .ne 22, 3) := by decide +kernel
theorem dX9_readStep_98 : decode cX9_readStep 98 = .ok (.aload_n 0, 1) := by decide +kernel
theorem dX9_readStep_99 : decode cX9_readStep 99 = .ok (.getfield 26, 3) := by decide +kernel
theorem dX9_readStep_102 : decode cX9_readStep 102 = .ok (.iload_n 2, 1) := by decide +kernel
theorem dX9_readStep_103 : decode cX9_readStep 103 = .ok (.iconst 2, 1) := by decide +kernel
theorem dX9_readStep_104 : decode cX9_readStep 104 = .ok (.iadd, 1) := by decide +kernel
theorem dX9_readStep_105 : decode cX9_readStep 105 = .ok (.aload_n 0, 1) := by decide +kernel
theorem dX9_readStep_106 : decode cX9_readStep 106 = .ok (.iconst 0, 1) := by decide +kernel
theorem dX9_readStep_107 : decode cX9_readStep 107 = .ok (.sipush 1000, 3) := by decide +kernel
theorem dX9_readStep_110 : decode cX9_readStep 110 = .ok (.invokevirtual 168, 3) := by decide +kernel
theorem dX9_readStep_113 : decode cX9_readStep 113 = .ok (.iastore, 1) := by decide +kernel
theorem dX9_readStep_114 : decode cX9_readStep 114 = .ok (.goto 32, 3) := by decide +kernel
theorem dX9_readStep_117 : decode cX9_readStep 117 = .ok (.iload_n 1, 1) := by decide +kernel
theorem dX9_readStep_118 : decode cX9_readStep 118 = .ok (.bipush 100, 2) := by decide +kernel
theorem dX9_readStep_120 : decode cX9_readStep 120 = .ok (.if_icmp .ne 21, 3) := by decide +kernel
theorem dX9_readStep_123 : decode cX9_readStep 123 = .ok (.aload_n 0, 1) := by decide +kernel
theorem dX9_readStep_124 : decode cX9_readStep 124 = .ok (.getfield 26, 3) := by decide +kernel
theorem dX9_readStep_127 : decode cX9_readStep 127 = .ok (.iload_n 2, 1) := by decide +kernel
theorem dX9_readStep_128 : decode cX9_readStep 128 = .ok (.iconst 1, 1) := by decide +kernel
theorem dX9_readStep_129 : decode cX9_readStep 129 = .ok (.iadd, 1) := by decide +kernel
theorem dX9_readStep_130 : decode cX9_readStep 130 = .ok (.aload_n 0, 1) := by decide +kernel
theorem dX9_readStep_131 : decode cX9_readStep 131 = .ok (.invokevirtual 177, 3) := by decide +kernel
theorem dX9_readStep_134 : decode cX9_readStep 134 = .ok (.iastore, 1) := by decide +kernel
theorem dX9_readStep_135 : decode cX9_readStep 135 = .ok (.aload_n 0, 1) := by decide +kernel
theorem dX9_readStep_136 : decode cX9_readStep 136 = .ok (.bipush 58, 2) := by decide +kernel
theorem dX9_readStep_138 : decode cX9_readStep 138 = .ok (.invokevirtual 171, 3) := by decide +kernel
theorem dX9_readStep_141 : decode cX9_readStep 141 = .ok (.aload_n 0, 1) := by decide +kernel
theorem dX9_readStep_142 : decode cX9_readStep 142 = .ok (.iload_n 2, 1) := by decide +kernel
theorem dX9_readStep_143 : decode cX9_readStep 143 = .ok (.invokevirtual 180, 3) := by decide +kernel
theorem dX9_readStep_146 : decode cX9_readStep 146 = .ok (.aload_n 0, 1) := by decide +kernel
theorem dX9_readStep_147 : decode cX9_readStep 147 = .ok (.dup, 1) := by decide +kernel
theorem dX9_readStep_148 : decode cX9_readStep 148 = .ok (.getfield 174, 3) := by decide +kernel
theorem dX9_readStep_151 : decode cX9_readStep 151 = .ok (.iconst 1, 1) := by decide +kernel
theorem dX9_readStep_152 : decode cX9_readStep 152 = .ok (.iadd, 1) := by decide +kernel
theorem dX9_readStep_153 : decode cX9_readStep 153 = .ok (.putfield 174, 3) := by decide +kernel
theorem dX9_readStep_156 : decode cX9_readStep 156 = .ok (.return_, 1) := by decide +kernel
theorem dX9_fault_0 : decode cX9_fault 0 = .ok (.aload_n 0, 1) := by decide +kernel
theorem dX9_fault_1 : decode cX9_fault 1 = .ok (.iconst 0, 1) := by decide +kernel
theorem dX9_fault_2 : decode cX9_fault 2 = .ok (.putfield 157, 3) := by decide +kernel
theorem dX9_fault_5 : decode cX9_fault 5 = .ok (.aload_n 0, 1) := by decide +kernel
theorem dX9_fault_6 : decode cX9_fault 6 = .ok (.iconst 0, 1) := by decide +kernel
theorem dX9_fault_7 : decode cX9_fault 7 = .ok (.putfield 160, 3) := by decide +kernel
theorem dX9_fault_10 : decode cX9_fault 10 = .ok (.aload_n 0, 1) := by decide +kernel
theorem dX9_fault_11 : decode cX9_fault 11 = .ok (.iconst 0, 1) := by decide +kernel
theorem dX9_fault_12 : decode cX9_fault 12 = .ok (.putfield 174, 3) := by decide +kernel
theorem dX9_fault_15 : decode cX9_fault 15 = .ok (.aload_n 0, 1) := by decide +kernel
theorem dX9_fault_16 : decode cX9_fault 16 = .ok (.invokevirtual 183, 3) := by decide +kernel
theorem dX9_fault_19 : decode cX9_fault 19 = .ok (.aload_n 0, 1) := by decide +kernel
theorem dX9_fault_20 : decode cX9_fault 20 = .ok (.getfield 160, 3) := by decide +kernel
theorem dX9_fault_23 : decode cX9_fault 23 = .ok (.ifCond .ne 29, 3) := by decide +kernel
theorem dX9_fault_26 : decode cX9_fault 26 = .ok (.aload_n 0, 1) := by decide +kernel
theorem dX9_fault_27 : decode cX9_fault 27 = .ok (.invokevirtual 164, 3) := by decide +kernel
theorem dX9_fault_30 : decode cX9_fault 30 = .ok (.bipush 44, 2) := by decide +kernel
theorem dX9_fault_32 : decode cX9_fault 32 = .ok (.if_icmp .ne 20, 3) := by decide +kernel
theorem dX9_fault_35 : decode cX9_fault 35 = .ok (.aload_n 0, 1) := by decide +kernel
theorem dX9_fault_36 : decode cX9_fault 36 = .ok (.dup, 1) := by decide +kernel
theorem dX9_fault_37 : decode cX9_fault 37 = .ok (.getfield 157, 3) := by decide +kernel
theorem dX9_fault_40 : decode cX9_fault 40 = .ok (.iconst 1, 1) := by decide +kernel
theorem dX9_fault_41 : decode cX9_fault 41 = .ok (.iadd, 1) := by decide +kernel
theorem dX9_fault_42 : decode cX9_fault 42 = .ok (.putfield 157, 3) := by decide +kernel
theorem dX9_fault_45 : decode cX9_fault 45 = .ok (.aload_n 0, 1) := by decide +kernel
theorem dX9_fault_46 : decode cX9_fault 46 = .ok (.invokevirtual 183, 3) := by decide +kernel
theorem dX9_fault_49 : decode cX9_fault 49 = .ok (.goto (-30), 3) := by decide +kernel
theorem dX9_fault_52 : decode cX9_fault 52 = .ok (.aload_n 0, 1) := by decide +kernel
theorem dX9_fault_53 : decode cX9_fault 53 = .ok (.getfield 160, 3) := by decide +kernel
theorem dX9_fault_56 : decode cX9_fault 56 = .ok (.ifCond .ne 14, 3) := by decide +kernel
theorem dX9_fault_59 : decode cX9_fault 59 = .ok (.aload_n 0, 1) := by decide +kernel
theorem dX9_fault_60 : decode cX9_fault 60 = .ok (.getfield 157, 3) := by decide +kernel
theorem dX9_fault_63 : decode cX9_fault 63 = .ok (.aload_n 0, 1) := by decide +kernel
theorem dX9_fault_64 : decode cX9_fault 64 = .ok (.getfield 152, 3) := by decide +kernel
theorem dX9_fault_67 : decode cX9_fault 67 = .ok (.if_icmp .ge 10, 3) := by decide +kernel
theorem dX9_fault_70 : decode cX9_fault 70 = .ok (.aload_n 0, 1) := by decide +kernel
theorem dX9_fault_71 : decode cX9_fault 71 = .ok (.getfield 157, 3) := by decide +kernel
theorem dX9_fault_74 : decode cX9_fault 74 = .ok (.goto 5, 3) := by decide +kernel
theorem dX9_fault_77 : decode cX9_fault 77 = .ok (.ldc 75, 2) := by decide +kernel
theorem dX9_fault_79 : decode cX9_fault 79 = .ok (.ireturn, 1) := by decide +kernel
theorem dX9_carryOutStep_0 : decode cX9_carryOutStep 0 = .ok (.aload_n 0, 1) := by decide +kernel
theorem dX9_carryOutStep_1 : decode cX9_carryOutStep 1 = .ok (.getfield 26, 3) := by decide +kernel
theorem dX9_carryOutStep_4 : decode cX9_carryOutStep 4 = .ok (.iload_n 1, 1) := by decide +kernel
theorem dX9_carryOutStep_5 : decode cX9_carryOutStep 5 = .ok (.iaload, 1) := by decide +kernel
theorem dX9_carryOutStep_6 : decode cX9_carryOutStep 6 = .ok (.lookupswitch 99 #[(100, 68), (110, 34), (118, 49)], 34) := by decide +kernel
theorem dX9_carryOutStep_40 : decode cX9_carryOutStep 40 = .ok (.aload_n 0, 1) := by decide +kernel
theorem dX9_carryOutStep_41 : decode cX9_carryOutStep 41 = .ok (.aload_n 0, 1) := by decide +kernel
theorem dX9_carryOutStep_42 : decode cX9_carryOutStep 42 = .ok (.getfield 26, 3) := by decide +kernel
theorem dX9_carryOutStep_45 : decode cX9_carryOutStep 45 = .ok (.iload_n 1, 1) := by decide +kernel
theorem dX9_carryOutStep_46 : decode cX9_carryOutStep 46 = .ok (.iconst 2, 1) := by decide +kernel
theorem dX9_carryOutStep_47 : decode cX9_carryOutStep 47 = .ok (.iadd, 1) := by decide +kernel
theorem dX9_carryOutStep_48 : decode cX9_carryOutStep 48 = .ok (.iaload, 1) := by decide +kernel
theorem dX9_carryOutStep_49 : decode cX9_carryOutStep 49 = .ok (.invokevirtual 130, 3) := by decide +kernel
theorem dX9_carryOutStep_52 : decode cX9_carryOutStep 52 = .ok (.goto 74, 3) := by decide +kernel
theorem dX9_carryOutStep_55 : decode cX9_carryOutStep 55 = .ok (.aload_n 0, 1) := by decide +kernel
theorem dX9_carryOutStep_56 : decode cX9_carryOutStep 56 = .ok (.getfield 9, 3) := by decide +kernel
theorem dX9_carryOutStep_59 : decode cX9_carryOutStep 59 = .ok (.sipush 1767, 3) := by decide +kernel
theorem dX9_carryOutStep_62 : decode cX9_carryOutStep 62 = .ok (.aload_n 0, 1) := by decide +kernel
theorem dX9_carryOutStep_63 : decode cX9_carryOutStep 63 = .ok (.getfield 26, 3) := by decide +kernel
theorem dX9_carryOutStep_66 : decode cX9_carryOutStep 66 = .ok (.iload_n 1, 1) := by decide +kernel
theorem dX9_carryOutStep_67 : decode cX9_carryOutStep 67 = .ok (.iconst 2, 1) := by decide +kernel
theorem dX9_carryOutStep_68 : decode cX9_carryOutStep 68 = .ok (.iadd, 1) := by decide +kernel
theorem dX9_carryOutStep_69 : decode cX9_carryOutStep 69 = .ok (.iaload, 1) := by decide +kernel
theorem dX9_carryOutStep_70 : decode cX9_carryOutStep 70 = .ok (.iastore, 1) := by decide +kernel
theorem dX9_carryOutStep_71 : decode cX9_carryOutStep 71 = .ok (.goto 55, 3) := by decide +kernel
theorem dX9_carryOutStep_74 : decode cX9_carryOutStep 74 = .ok (.aload_n 0, 1) := by decide +kernel
theorem dX9_carryOutStep_75 : decode cX9_carryOutStep 75 = .ok (.aload_n 0, 1) := by decide +kernel
theorem dX9_carryOutStep_76 : decode cX9_carryOutStep 76 = .ok (.getfield 26, 3) := by decide +kernel
theorem dX9_carryOutStep_79 : decode cX9_carryOutStep 79 = .ok (.iload_n 1, 1) := by decide +kernel
theorem dX9_carryOutStep_80 : decode cX9_carryOutStep 80 = .ok (.iconst 1, 1) := by decide +kernel
theorem dX9_carryOutStep_81 : decode cX9_carryOutStep 81 = .ok (.iadd, 1) := by decide +kernel
theorem dX9_carryOutStep_82 : decode cX9_carryOutStep 82 = .ok (.iaload, 1) := by decide +kernel
theorem dX9_carryOutStep_83 : decode cX9_carryOutStep 83 = .ok (.aload_n 0, 1) := by decide +kernel
theorem dX9_carryOutStep_84 : decode cX9_carryOutStep 84 = .ok (.getfield 26, 3) := by decide +kernel
theorem dX9_carryOutStep_87 : decode cX9_carryOutStep 87 = .ok (.iload_n 1, 1) := by decide +kernel
theorem dX9_carryOutStep_88 : decode cX9_carryOutStep 88 = .ok (.iconst 2, 1) := by decide +kernel
theorem dX9_carryOutStep_89 : decode cX9_carryOutStep 89 = .ok (.iadd, 1) := by decide +kernel
theorem dX9_carryOutStep_90 : decode cX9_carryOutStep 90 = .ok (.iaload, 1) := by decide +kernel
theorem dX9_carryOutStep_91 : decode cX9_carryOutStep 91 = .ok (.aload_n 0, 1) := by decide +kernel
theorem dX9_carryOutStep_92 : decode cX9_carryOutStep 92 = .ok (.getfield 26, 3) := by decide +kernel
theorem dX9_carryOutStep_95 : decode cX9_carryOutStep 95 = .ok (.iload_n 1, 1) := by decide +kernel
theorem dX9_carryOutStep_96 : decode cX9_carryOutStep 96 = .ok (.iconst 3, 1) := by decide +kernel
theorem dX9_carryOutStep_97 : decode cX9_carryOutStep 97 = .ok (.iadd, 1) := by decide +kernel
theorem dX9_carryOutStep_98 : decode cX9_carryOutStep 98 = .ok (.iaload, 1) := by decide +kernel
theorem dX9_carryOutStep_99 : decode cX9_carryOutStep 99 = .ok (.invokevirtual 66, 3) := by decide +kernel
theorem dX9_carryOutStep_102 : decode cX9_carryOutStep 102 = .ok (.goto 24, 3) := by decide +kernel
theorem dX9_carryOutStep_105 : decode cX9_carryOutStep 105 = .ok (.aload_n 0, 1) := by decide +kernel
theorem dX9_carryOutStep_106 : decode cX9_carryOutStep 106 = .ok (.aload_n 0, 1) := by decide +kernel
theorem dX9_carryOutStep_107 : decode cX9_carryOutStep 107 = .ok (.getfield 26, 3) := by decide +kernel
theorem dX9_carryOutStep_110 : decode cX9_carryOutStep 110 = .ok (.iload_n 1, 1) := by decide +kernel
theorem dX9_carryOutStep_111 : decode cX9_carryOutStep 111 = .ok (.iconst 2, 1) := by decide +kernel
theorem dX9_carryOutStep_112 : decode cX9_carryOutStep 112 = .ok (.iadd, 1) := by decide +kernel
theorem dX9_carryOutStep_113 : decode cX9_carryOutStep 113 = .ok (.iaload, 1) := by decide +kernel
theorem dX9_carryOutStep_114 : decode cX9_carryOutStep 114 = .ok (.aload_n 0, 1) := by decide +kernel
theorem dX9_carryOutStep_115 : decode cX9_carryOutStep 115 = .ok (.getfield 26, 3) := by decide +kernel
theorem dX9_carryOutStep_118 : decode cX9_carryOutStep 118 = .ok (.iload_n 1, 1) := by decide +kernel
theorem dX9_carryOutStep_119 : decode cX9_carryOutStep 119 = .ok (.iconst 3, 1) := by decide +kernel
theorem dX9_carryOutStep_120 : decode cX9_carryOutStep 120 = .ok (.iadd, 1) := by decide +kernel
theorem dX9_carryOutStep_121 : decode cX9_carryOutStep 121 = .ok (.iaload, 1) := by decide +kernel
theorem dX9_carryOutStep_122 : decode cX9_carryOutStep 122 = .ok (.invokevirtual 72, 3) := by decide +kernel
theorem dX9_carryOutStep_125 : decode cX9_carryOutStep 125 = .ok (.pop, 1) := by decide +kernel
theorem dX9_carryOutStep_126 : decode cX9_carryOutStep 126 = .ok (.return_, 1) := by decide +kernel
theorem dX9_carryOut_0 : decode cX9_carryOut 0 = .ok (.aload_n 0, 1) := by decide +kernel
theorem dX9_carryOut_1 : decode cX9_carryOut 1 = .ok (.invokevirtual 186, 3) := by decide +kernel
theorem dX9_carryOut_4 : decode cX9_carryOut 4 = .ok (.ldc 75, 2) := by decide +kernel
theorem dX9_carryOut_6 : decode cX9_carryOut 6 = .ok (.if_icmp .eq 6, 3) := by decide +kernel
theorem dX9_carryOut_9 : decode cX9_carryOut 9 = .ok (.ldc 189, 2) := by decide +kernel
theorem dX9_carryOut_11 : decode cX9_carryOut 11 = .ok (.ireturn, 1) := by decide +kernel
theorem dX9_carryOut_12 : decode cX9_carryOut 12 = .ok (.iconst 0, 1) := by decide +kernel
theorem dX9_carryOut_13 : decode cX9_carryOut 13 = .ok (.istore_n 1, 1) := by decide +kernel
theorem dX9_carryOut_14 : decode cX9_carryOut 14 = .ok (.iconst 1, 1) := by decide +kernel
theorem dX9_carryOut_15 : decode cX9_carryOut 15 = .ok (.istore_n 2, 1) := by decide +kernel
theorem dX9_carryOut_16 : decode cX9_carryOut 16 = .ok (.iconst 0, 1) := by decide +kernel
theorem dX9_carryOut_17 : decode cX9_carryOut 17 = .ok (.istore_n 3, 1) := by decide +kernel
theorem dX9_carryOut_18 : decode cX9_carryOut 18 = .ok (.iload_n 3, 1) := by decide +kernel
theorem dX9_carryOut_19 : decode cX9_carryOut 19 = .ok (.aload_n 0, 1) := by decide +kernel
theorem dX9_carryOut_20 : decode cX9_carryOut 20 = .ok (.getfield 174, 3) := by decide +kernel
theorem dX9_carryOut_23 : decode cX9_carryOut 23 = .ok (.if_icmp .ge 66, 3) := by decide +kernel
theorem dX9_carryOut_26 : decode cX9_carryOut 26 = .ok (.iload_n 2, 1) := by decide +kernel
theorem dX9_carryOut_27 : decode cX9_carryOut 27 = .ok (.ifCond .eq 24, 3) := by decide +kernel
theorem dX9_carryOut_30 : decode cX9_carryOut 30 = .ok (.aload_n 0, 1) := by decide +kernel
theorem dX9_carryOut_31 : decode cX9_carryOut 31 = .ok (.aload_n 0, 1) := by decide +kernel
theorem dX9_carryOut_32 : decode cX9_carryOut 32 = .ok (.getfield 26, 3) := by decide +kernel
theorem dX9_carryOut_35 : decode cX9_carryOut 35 = .ok (.iconst 4, 1) := by decide +kernel
theorem dX9_carryOut_36 : decode cX9_carryOut 36 = .ok (.iload_n 3, 1) := by decide +kernel
theorem dX9_carryOut_37 : decode cX9_carryOut 37 = .ok (.imul, 1) := by decide +kernel
theorem dX9_carryOut_38 : decode cX9_carryOut 38 = .ok (.iconst 1, 1) := by decide +kernel
theorem dX9_carryOut_39 : decode cX9_carryOut 39 = .ok (.iadd, 1) := by decide +kernel
theorem dX9_carryOut_40 : decode cX9_carryOut 40 = .ok (.iaload, 1) := by decide +kernel
theorem dX9_carryOut_41 : decode cX9_carryOut 41 = .ok (.invokevirtual 53, 3) := by decide +kernel
theorem dX9_carryOut_44 : decode cX9_carryOut 44 = .ok (.ifCond .eq 7, 3) := by decide +kernel
theorem dX9_carryOut_47 : decode cX9_carryOut 47 = .ok (.iconst 1, 1) := by decide +kernel
theorem dX9_carryOut_48 : decode cX9_carryOut 48 = .ok (.goto 4, 3) := by decide +kernel
theorem dX9_carryOut_51 : decode cX9_carryOut 51 = .ok (.iconst 0, 1) := by decide +kernel
theorem dX9_carryOut_52 : decode cX9_carryOut 52 = .ok (.istore_n 2, 1) := by decide +kernel
theorem dX9_carryOut_53 : decode cX9_carryOut 53 = .ok (.iload_n 1, 1) := by decide +kernel
theorem dX9_carryOut_54 : decode cX9_carryOut 54 = .ok (.aload_n 0, 1) := by decide +kernel
theorem dX9_carryOut_55 : decode cX9_carryOut 55 = .ok (.getfield 26, 3) := by decide +kernel
theorem dX9_carryOut_58 : decode cX9_carryOut 58 = .ok (.iconst 4, 1) := by decide +kernel
theorem dX9_carryOut_59 : decode cX9_carryOut 59 = .ok (.iload_n 3, 1) := by decide +kernel
theorem dX9_carryOut_60 : decode cX9_carryOut 60 = .ok (.imul, 1) := by decide +kernel
theorem dX9_carryOut_61 : decode cX9_carryOut 61 = .ok (.iaload, 1) := by decide +kernel
theorem dX9_carryOut_62 : decode cX9_carryOut 62 = .ok (.bipush 110, 2) := by decide +kernel
theorem dX9_carryOut_64 : decode cX9_carryOut 64 = .ok (.if_icmp .ne 16, 3) := by decide +kernel
theorem dX9_carryOut_67 : decode cX9_carryOut 67 = .ok (.aload_n 0, 1) := by decide +kernel
theorem dX9_carryOut_68 : decode cX9_carryOut 68 = .ok (.getfield 26, 3) := by decide +kernel
theorem dX9_carryOut_71 : decode cX9_carryOut 71 = .ok (.iconst 4, 1) := by decide +kernel
theorem dX9_carryOut_72 : decode cX9_carryOut 72 = .ok (.iload_n 3, 1) := by decide +kernel
theorem dX9_carryOut_73 : decode cX9_carryOut 73 = .ok (.imul, 1) := by decide +kernel
theorem dX9_carryOut_74 : decode cX9_carryOut 74 = .ok (.iconst 2, 1) := by decide +kernel
theorem dX9_carryOut_75 : decode cX9_carryOut 75 = .ok (.iadd, 1) := by decide +kernel
theorem dX9_carryOut_76 : decode cX9_carryOut 76 = .ok (.iaload, 1) := by decide +kernel
theorem dX9_carryOut_77 : decode cX9_carryOut 77 = .ok (.goto 4, 3) := by decide +kernel
theorem dX9_carryOut_80 : decode cX9_carryOut 80 = .ok (.iconst 0, 1) := by decide +kernel
theorem dX9_carryOut_81 : decode cX9_carryOut 81 = .ok (.iadd, 1) := by decide +kernel
theorem dX9_carryOut_82 : decode cX9_carryOut 82 = .ok (.istore_n 1, 1) := by decide +kernel
theorem dX9_carryOut_83 : decode cX9_carryOut 83 = .ok (.iinc 3 1, 3) := by decide +kernel
theorem dX9_carryOut_86 : decode cX9_carryOut 86 = .ok (.goto (-68), 3) := by decide +kernel
theorem dX9_carryOut_89 : decode cX9_carryOut 89 = .ok (.iload_n 2, 1) := by decide +kernel
theorem dX9_carryOut_90 : decode cX9_carryOut 90 = .ok (.ifCond .ne 6, 3) := by decide +kernel
theorem dX9_carryOut_93 : decode cX9_carryOut 93 = .ok (.ldc 57, 2) := by decide +kernel
theorem dX9_carryOut_95 : decode cX9_carryOut 95 = .ok (.ireturn, 1) := by decide +kernel
theorem dX9_carryOut_96 : decode cX9_carryOut 96 = .ok (.aload_n 0, 1) := by decide +kernel
theorem dX9_carryOut_97 : decode cX9_carryOut 97 = .ok (.getfield 9, 3) := by decide +kernel
theorem dX9_carryOut_100 : decode cX9_carryOut 100 = .ok (.sipush 1765, 3) := by decide +kernel
theorem dX9_carryOut_103 : decode cX9_carryOut 103 = .ok (.iaload, 1) := by decide +kernel
theorem dX9_carryOut_104 : decode cX9_carryOut 104 = .ok (.iload_n 1, 1) := by decide +kernel
theorem dX9_carryOut_105 : decode cX9_carryOut 105 = .ok (.iadd, 1) := by decide +kernel
theorem dX9_carryOut_106 : decode cX9_carryOut 106 = .ok (.ldc 129, 2) := by decide +kernel
theorem dX9_carryOut_108 : decode cX9_carryOut 108 = .ok (.if_icmp .le 6, 3) := by decide +kernel
theorem dX9_carryOut_111 : decode cX9_carryOut 111 = .ok (.ldc 62, 2) := by decide +kernel
theorem dX9_carryOut_113 : decode cX9_carryOut 113 = .ok (.ireturn, 1) := by decide +kernel
theorem dX9_carryOut_114 : decode cX9_carryOut 114 = .ok (.iconst 0, 1) := by decide +kernel
theorem dX9_carryOut_115 : decode cX9_carryOut 115 = .ok (.istore_n 3, 1) := by decide +kernel
theorem dX9_carryOut_116 : decode cX9_carryOut 116 = .ok (.iload_n 3, 1) := by decide +kernel
theorem dX9_carryOut_117 : decode cX9_carryOut 117 = .ok (.aload_n 0, 1) := by decide +kernel
theorem dX9_carryOut_118 : decode cX9_carryOut 118 = .ok (.getfield 174, 3) := by decide +kernel
theorem dX9_carryOut_121 : decode cX9_carryOut 121 = .ok (.if_icmp .ge 16, 3) := by decide +kernel
theorem dX9_carryOut_124 : decode cX9_carryOut 124 = .ok (.aload_n 0, 1) := by decide +kernel
theorem dX9_carryOut_125 : decode cX9_carryOut 125 = .ok (.iconst 4, 1) := by decide +kernel
theorem dX9_carryOut_126 : decode cX9_carryOut 126 = .ok (.iload_n 3, 1) := by decide +kernel
theorem dX9_carryOut_127 : decode cX9_carryOut 127 = .ok (.imul, 1) := by decide +kernel
theorem dX9_carryOut_128 : decode cX9_carryOut 128 = .ok (.invokevirtual 190, 3) := by decide +kernel
theorem dX9_carryOut_131 : decode cX9_carryOut 131 = .ok (.iinc 3 1, 3) := by decide +kernel
theorem dX9_carryOut_134 : decode cX9_carryOut 134 = .ok (.goto (-18), 3) := by decide +kernel
theorem dX9_carryOut_137 : decode cX9_carryOut 137 = .ok (.aload_n 0, 1) := by decide +kernel
theorem dX9_carryOut_138 : decode cX9_carryOut 138 = .ok (.iconst 0, 1) := by decide +kernel
theorem dX9_carryOut_139 : decode cX9_carryOut 139 = .ok (.putfield 152, 3) := by decide +kernel
theorem dX9_carryOut_142 : decode cX9_carryOut 142 = .ok (.iload_n 1, 1) := by decide +kernel
theorem dX9_carryOut_143 : decode cX9_carryOut 143 = .ok (.ireturn, 1) := by decide +kernel
theorem dX9_count_0 : decode cX9_count 0 = .ok (.iload_n 1, 1) := by decide +kernel
theorem dX9_count_1 : decode cX9_count 1 = .ok (.tableswitch 108 0 4 #[35, 44, 53, 62, 103], 35) := by decide +kernel
theorem dX9_count_36 : decode cX9_count 36 = .ok (.aload_n 0, 1) := by decide +kernel
theorem dX9_count_37 : decode cX9_count 37 = .ok (.getfield 9, 3) := by decide +kernel
theorem dX9_count_40 : decode cX9_count 40 = .ok (.sipush 1765, 3) := by decide +kernel
theorem dX9_count_43 : decode cX9_count 43 = .ok (.iaload, 1) := by decide +kernel
theorem dX9_count_44 : decode cX9_count 44 = .ok (.ireturn, 1) := by decide +kernel
theorem dX9_count_45 : decode cX9_count 45 = .ok (.aload_n 0, 1) := by decide +kernel
theorem dX9_count_46 : decode cX9_count 46 = .ok (.getfield 9, 3) := by decide +kernel
theorem dX9_count_49 : decode cX9_count 49 = .ok (.sipush 1766, 3) := by decide +kernel
theorem dX9_count_52 : decode cX9_count 52 = .ok (.iaload, 1) := by decide +kernel
theorem dX9_count_53 : decode cX9_count 53 = .ok (.ireturn, 1) := by decide +kernel
theorem dX9_count_54 : decode cX9_count 54 = .ok (.aload_n 0, 1) := by decide +kernel
theorem dX9_count_55 : decode cX9_count 55 = .ok (.getfield 9, 3) := by decide +kernel
theorem dX9_count_58 : decode cX9_count 58 = .ok (.sipush 1767, 3) := by decide +kernel
theorem dX9_count_61 : decode cX9_count 61 = .ok (.iaload, 1) := by decide +kernel
theorem dX9_count_62 : decode cX9_count 62 = .ok (.ireturn, 1) := by decide +kernel
theorem dX9_count_63 : decode cX9_count 63 = .ok (.aload_n 0, 1) := by decide +kernel
theorem dX9_count_64 : decode cX9_count 64 = .ok (.getfield 9, 3) := by decide +kernel
theorem dX9_count_67 : decode cX9_count 67 = .ok (.sipush 1771, 3) := by decide +kernel
theorem dX9_count_70 : decode cX9_count 70 = .ok (.iaload, 1) := by decide +kernel
theorem dX9_count_71 : decode cX9_count 71 = .ok (.ifCond .ne 7, 3) := by decide +kernel
theorem dX9_count_74 : decode cX9_count 74 = .ok (.iconst 0, 1) := by decide +kernel
theorem dX9_count_75 : decode cX9_count 75 = .ok (.goto 28, 3) := by decide +kernel
theorem dX9_count_78 : decode cX9_count 78 = .ok (.aload_n 0, 1) := by decide +kernel
theorem dX9_count_79 : decode cX9_count 79 = .ok (.aload_n 0, 1) := by decide +kernel
theorem dX9_count_80 : decode cX9_count 80 = .ok (.getfield 9, 3) := by decide +kernel
theorem dX9_count_83 : decode cX9_count 83 = .ok (.sipush 1766, 3) := by decide +kernel
theorem dX9_count_86 : decode cX9_count 86 = .ok (.iaload, 1) := by decide +kernel
theorem dX9_count_87 : decode cX9_count 87 = .ok (.iconst 1, 1) := by decide +kernel
theorem dX9_count_88 : decode cX9_count 88 = .ok (.isub, 1) := by decide +kernel
theorem dX9_count_89 : decode cX9_count 89 = .ok (.invokevirtual 69, 3) := by decide +kernel
theorem dX9_count_92 : decode cX9_count 92 = .ok (.iconst 2, 1) := by decide +kernel
theorem dX9_count_93 : decode cX9_count 93 = .ok (.iadd, 1) := by decide +kernel
theorem dX9_count_94 : decode cX9_count 94 = .ok (.aload_n 0, 1) := by decide +kernel
theorem dX9_count_95 : decode cX9_count 95 = .ok (.getfield 9, 3) := by decide +kernel
theorem dX9_count_98 : decode cX9_count 98 = .ok (.sipush 1771, 3) := by decide +kernel
theorem dX9_count_101 : decode cX9_count 101 = .ok (.iaload, 1) := by decide +kernel
theorem dX9_count_102 : decode cX9_count 102 = .ok (.isub, 1) := by decide +kernel
theorem dX9_count_103 : decode cX9_count 103 = .ok (.ireturn, 1) := by decide +kernel
theorem dX9_count_104 : decode cX9_count 104 = .ok (.aload_n 0, 1) := by decide +kernel
theorem dX9_count_105 : decode cX9_count 105 = .ok (.getfield 152, 3) := by decide +kernel
theorem dX9_count_108 : decode cX9_count 108 = .ok (.ireturn, 1) := by decide +kernel
theorem dX9_count_109 : decode cX9_count 109 = .ok (.ldc 52, 2) := by decide +kernel
theorem dX9_count_111 : decode cX9_count 111 = .ok (.ireturn, 1) := by decide +kernel
theorem dX9_save_0 : decode cX9_save 0 = .ok (.iload_n 1, 1) := by decide +kernel
theorem dX9_save_1 : decode cX9_save 1 = .ok (.iconst 0, 1) := by decide +kernel
theorem dX9_save_2 : decode cX9_save 2 = .ok (.iconst 1, 1) := by decide +kernel
theorem dX9_save_3 : decode cX9_save 3 = .ok (.invokestatic 45, 3) := by decide +kernel
theorem dX9_save_6 : decode cX9_save 6 = .ok (.ifCond .ne 6, 3) := by decide +kernel
theorem dX9_save_9 : decode cX9_save 9 = .ok (.ldc 52, 2) := by decide +kernel
theorem dX9_save_11 : decode cX9_save 11 = .ok (.ireturn, 1) := by decide +kernel
theorem dX9_save_12 : decode cX9_save 12 = .ok (.iconst 0, 1) := by decide +kernel
theorem dX9_save_13 : decode cX9_save 13 = .ok (.istore_n 2, 1) := by decide +kernel
theorem dX9_save_14 : decode cX9_save 14 = .ok (.iload_n 2, 1) := by decide +kernel
theorem dX9_save_15 : decode cX9_save 15 = .ok (.sipush 1906, 3) := by decide +kernel
theorem dX9_save_18 : decode cX9_save 18 = .ok (.if_icmp .ge 27, 3) := by decide +kernel
theorem dX9_save_21 : decode cX9_save 21 = .ok (.aload_n 0, 1) := by decide +kernel
theorem dX9_save_22 : decode cX9_save 22 = .ok (.getfield 16, 3) := by decide +kernel
theorem dX9_save_25 : decode cX9_save 25 = .ok (.sipush 1906, 3) := by decide +kernel
theorem dX9_save_28 : decode cX9_save 28 = .ok (.iload_n 1, 1) := by decide +kernel
theorem dX9_save_29 : decode cX9_save 29 = .ok (.imul, 1) := by decide +kernel
theorem dX9_save_30 : decode cX9_save 30 = .ok (.iload_n 2, 1) := by decide +kernel
theorem dX9_save_31 : decode cX9_save 31 = .ok (.iadd, 1) := by decide +kernel
theorem dX9_save_32 : decode cX9_save 32 = .ok (.aload_n 0, 1) := by decide +kernel
theorem dX9_save_33 : decode cX9_save 33 = .ok (.getfield 9, 3) := by decide +kernel
theorem dX9_save_36 : decode cX9_save 36 = .ok (.iload_n 2, 1) := by decide +kernel
theorem dX9_save_37 : decode cX9_save 37 = .ok (.iaload, 1) := by decide +kernel
theorem dX9_save_38 : decode cX9_save 38 = .ok (.iastore, 1) := by decide +kernel
theorem dX9_save_39 : decode cX9_save 39 = .ok (.iinc 2 1, 3) := by decide +kernel
theorem dX9_save_42 : decode cX9_save 42 = .ok (.goto (-28), 3) := by decide +kernel
theorem dX9_save_45 : decode cX9_save 45 = .ok (.aload_n 0, 1) := by decide +kernel
theorem dX9_save_46 : decode cX9_save 46 = .ok (.getfield 19, 3) := by decide +kernel
theorem dX9_save_49 : decode cX9_save 49 = .ok (.iload_n 1, 1) := by decide +kernel
theorem dX9_save_50 : decode cX9_save 50 = .ok (.iconst 1, 1) := by decide +kernel
theorem dX9_save_51 : decode cX9_save 51 = .ok (.bastore, 1) := by decide +kernel
theorem dX9_save_52 : decode cX9_save 52 = .ok (.aload_n 0, 1) := by decide +kernel
theorem dX9_save_53 : decode cX9_save 53 = .ok (.getfield 9, 3) := by decide +kernel
theorem dX9_save_56 : decode cX9_save 56 = .ok (.sipush 1765, 3) := by decide +kernel
theorem dX9_save_59 : decode cX9_save 59 = .ok (.iaload, 1) := by decide +kernel
theorem dX9_save_60 : decode cX9_save 60 = .ok (.ireturn, 1) := by decide +kernel
theorem dX9_restore_0 : decode cX9_restore 0 = .ok (.iload_n 1, 1) := by decide +kernel
theorem dX9_restore_1 : decode cX9_restore 1 = .ok (.iconst 0, 1) := by decide +kernel
theorem dX9_restore_2 : decode cX9_restore 2 = .ok (.iconst 1, 1) := by decide +kernel
theorem dX9_restore_3 : decode cX9_restore 3 = .ok (.invokestatic 45, 3) := by decide +kernel
theorem dX9_restore_6 : decode cX9_restore 6 = .ok (.ifCond .ne 6, 3) := by decide +kernel
theorem dX9_restore_9 : decode cX9_restore 9 = .ok (.ldc 52, 2) := by decide +kernel
theorem dX9_restore_11 : decode cX9_restore 11 = .ok (.ireturn, 1) := by decide +kernel
theorem dX9_restore_12 : decode cX9_restore 12 = .ok (.aload_n 0, 1) := by decide +kernel
theorem dX9_restore_13 : decode cX9_restore 13 = .ok (.getfield 19, 3) := by decide +kernel
theorem dX9_restore_16 : decode cX9_restore 16 = .ok (.iload_n 1, 1) := by decide +kernel
theorem dX9_restore_17 : decode cX9_restore 17 = .ok (.baload, 1) := by decide +kernel
theorem dX9_restore_18 : decode cX9_restore 18 = .ok (.ifCond .ne 6, 3) := by decide +kernel
theorem dX9_restore_21 : decode cX9_restore 21 = .ok (.ldc 62, 2) := by decide +kernel
theorem dX9_restore_23 : decode cX9_restore 23 = .ok (.ireturn, 1) := by decide +kernel
theorem dX9_restore_24 : decode cX9_restore 24 = .ok (.iconst 0, 1) := by decide +kernel
theorem dX9_restore_25 : decode cX9_restore 25 = .ok (.istore_n 2, 1) := by decide +kernel
theorem dX9_restore_26 : decode cX9_restore 26 = .ok (.iload_n 2, 1) := by decide +kernel
theorem dX9_restore_27 : decode cX9_restore 27 = .ok (.sipush 1906, 3) := by decide +kernel
theorem dX9_restore_30 : decode cX9_restore 30 = .ok (.if_icmp .ge 27, 3) := by decide +kernel
theorem dX9_restore_33 : decode cX9_restore 33 = .ok (.aload_n 0, 1) := by decide +kernel
theorem dX9_restore_34 : decode cX9_restore 34 = .ok (.getfield 9, 3) := by decide +kernel
theorem dX9_restore_37 : decode cX9_restore 37 = .ok (.iload_n 2, 1) := by decide +kernel
theorem dX9_restore_38 : decode cX9_restore 38 = .ok (.aload_n 0, 1) := by decide +kernel
theorem dX9_restore_39 : decode cX9_restore 39 = .ok (.getfield 16, 3) := by decide +kernel
theorem dX9_restore_42 : decode cX9_restore 42 = .ok (.sipush 1906, 3) := by decide +kernel
theorem dX9_restore_45 : decode cX9_restore 45 = .ok (.iload_n 1, 1) := by decide +kernel
theorem dX9_restore_46 : decode cX9_restore 46 = .ok (.imul, 1) := by decide +kernel
theorem dX9_restore_47 : decode cX9_restore 47 = .ok (.iload_n 2, 1) := by decide +kernel
theorem dX9_restore_48 : decode cX9_restore 48 = .ok (.iadd, 1) := by decide +kernel
theorem dX9_restore_49 : decode cX9_restore 49 = .ok (.iaload, 1) := by decide +kernel
theorem dX9_restore_50 : decode cX9_restore 50 = .ok (.iastore, 1) := by decide +kernel
theorem dX9_restore_51 : decode cX9_restore 51 = .ok (.iinc 2 1, 3) := by decide +kernel
theorem dX9_restore_54 : decode cX9_restore 54 = .ok (.goto (-28), 3) := by decide +kernel
theorem dX9_restore_57 : decode cX9_restore 57 = .ok (.aload_n 0, 1) := by decide +kernel
theorem dX9_restore_58 : decode cX9_restore 58 = .ok (.getfield 9, 3) := by decide +kernel
theorem dX9_restore_61 : decode cX9_restore 61 = .ok (.sipush 1765, 3) := by decide +kernel
theorem dX9_restore_64 : decode cX9_restore 64 = .ok (.iaload, 1) := by decide +kernel
theorem dX9_restore_65 : decode cX9_restore 65 = .ok (.ireturn, 1) := by decide +kernel
