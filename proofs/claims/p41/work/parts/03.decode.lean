theorem dX0_init_0 : decode cX0_init 0 = .ok (.aload_n 0, 1) := by decide +kernel
theorem dX0_init_1 : decode cX0_init 1 = .ok (.invokespecial 3, 3) := by decide +kernel
theorem dX0_init_4 : decode cX0_init 4 = .ok (.aload_n 0, 1) := by decide +kernel
theorem dX0_init_5 : decode cX0_init 5 = .ok (.new 9, 3) := by decide +kernel
theorem dX0_init_8 : decode cX0_init 8 = .ok (.dup, 1) := by decide +kernel
theorem dX0_init_9 : decode cX0_init 9 = .ok (.bipush 60, 2) := by decide +kernel
theorem dX0_init_11 : decode cX0_init 11 = .ok (.iconst 0, 1) := by decide +kernel
theorem dX0_init_12 : decode cX0_init 12 = .ok (.invokespecial 11, 3) := by decide +kernel
theorem dX0_init_15 : decode cX0_init 15 = .ok (.putfield 14, 3) := by decide +kernel
theorem dX0_init_18 : decode cX0_init 18 = .ok (.aload_n 0, 1) := by decide +kernel
theorem dX0_init_19 : decode cX0_init 19 = .ok (.new 9, 3) := by decide +kernel
theorem dX0_init_22 : decode cX0_init 22 = .ok (.dup, 1) := by decide +kernel
theorem dX0_init_23 : decode cX0_init 23 = .ok (.bipush 60, 2) := by decide +kernel
theorem dX0_init_25 : decode cX0_init 25 = .ok (.iconst 0, 1) := by decide +kernel
theorem dX0_init_26 : decode cX0_init 26 = .ok (.invokespecial 11, 3) := by decide +kernel
theorem dX0_init_29 : decode cX0_init 29 = .ok (.putfield 20, 3) := by decide +kernel
theorem dX0_init_32 : decode cX0_init 32 = .ok (.aload_n 0, 1) := by decide +kernel
theorem dX0_init_33 : decode cX0_init 33 = .ok (.new 9, 3) := by decide +kernel
theorem dX0_init_36 : decode cX0_init 36 = .ok (.dup, 1) := by decide +kernel
theorem dX0_init_37 : decode cX0_init 37 = .ok (.bipush 60, 2) := by decide +kernel
theorem dX0_init_39 : decode cX0_init 39 = .ok (.iconst 0, 1) := by decide +kernel
theorem dX0_init_40 : decode cX0_init 40 = .ok (.invokespecial 11, 3) := by decide +kernel
theorem dX0_init_43 : decode cX0_init 43 = .ok (.putfield 23, 3) := by decide +kernel
theorem dX0_init_46 : decode cX0_init 46 = .ok (.aload_n 0, 1) := by decide +kernel
theorem dX0_init_47 : decode cX0_init 47 = .ok (.new 9, 3) := by decide +kernel
theorem dX0_init_50 : decode cX0_init 50 = .ok (.dup, 1) := by decide +kernel
theorem dX0_init_51 : decode cX0_init 51 = .ok (.bipush 60, 2) := by decide +kernel
theorem dX0_init_53 : decode cX0_init 53 = .ok (.iconst 0, 1) := by decide +kernel
theorem dX0_init_54 : decode cX0_init 54 = .ok (.invokespecial 11, 3) := by decide +kernel
theorem dX0_init_57 : decode cX0_init 57 = .ok (.putfield 26, 3) := by decide +kernel
theorem dX0_init_60 : decode cX0_init 60 = .ok (.aload_n 0, 1) := by decide +kernel
theorem dX0_init_61 : decode cX0_init 61 = .ok (.new 9, 3) := by decide +kernel
theorem dX0_init_64 : decode cX0_init 64 = .ok (.dup, 1) := by decide +kernel
theorem dX0_init_65 : decode cX0_init 65 = .ok (.bipush 60, 2) := by decide +kernel
theorem dX0_init_67 : decode cX0_init 67 = .ok (.iconst 0, 1) := by decide +kernel
theorem dX0_init_68 : decode cX0_init 68 = .ok (.invokespecial 11, 3) := by decide +kernel
theorem dX0_init_71 : decode cX0_init 71 = .ok (.putfield 29, 3) := by decide +kernel
theorem dX0_init_74 : decode cX0_init 74 = .ok (.aload_n 0, 1) := by decide +kernel
theorem dX0_init_75 : decode cX0_init 75 = .ok (.new 9, 3) := by decide +kernel
theorem dX0_init_78 : decode cX0_init 78 = .ok (.dup, 1) := by decide +kernel
theorem dX0_init_79 : decode cX0_init 79 = .ok (.bipush 60, 2) := by decide +kernel
theorem dX0_init_81 : decode cX0_init 81 = .ok (.iconst 0, 1) := by decide +kernel
theorem dX0_init_82 : decode cX0_init 82 = .ok (.invokespecial 11, 3) := by decide +kernel
theorem dX0_init_85 : decode cX0_init 85 = .ok (.putfield 32, 3) := by decide +kernel
theorem dX0_init_88 : decode cX0_init 88 = .ok (.aload_n 0, 1) := by decide +kernel
theorem dX0_init_89 : decode cX0_init 89 = .ok (.new 9, 3) := by decide +kernel
theorem dX0_init_92 : decode cX0_init 92 = .ok (.dup, 1) := by decide +kernel
theorem dX0_init_93 : decode cX0_init 93 = .ok (.bipush 60, 2) := by decide +kernel
theorem dX0_init_95 : decode cX0_init 95 = .ok (.iconst 0, 1) := by decide +kernel
theorem dX0_init_96 : decode cX0_init 96 = .ok (.invokespecial 11, 3) := by decide +kernel
theorem dX0_init_99 : decode cX0_init 99 = .ok (.putfield 35, 3) := by decide +kernel
theorem dX0_init_102 : decode cX0_init 102 = .ok (.aload_n 0, 1) := by decide +kernel
theorem dX0_init_103 : decode cX0_init 103 = .ok (.new 9, 3) := by decide +kernel
theorem dX0_init_106 : decode cX0_init 106 = .ok (.dup, 1) := by decide +kernel
theorem dX0_init_107 : decode cX0_init 107 = .ok (.sipush 300, 3) := by decide +kernel
theorem dX0_init_110 : decode cX0_init 110 = .ok (.iconst 0, 1) := by decide +kernel
theorem dX0_init_111 : decode cX0_init 111 = .ok (.invokespecial 11, 3) := by decide +kernel
theorem dX0_init_114 : decode cX0_init 114 = .ok (.putfield 38, 3) := by decide +kernel
theorem dX0_init_117 : decode cX0_init 117 = .ok (.aload_n 0, 1) := by decide +kernel
theorem dX0_init_118 : decode cX0_init 118 = .ok (.iconst 0, 1) := by decide +kernel
theorem dX0_init_119 : decode cX0_init 119 = .ok (.putfield 41, 3) := by decide +kernel
theorem dX0_init_122 : decode cX0_init 122 = .ok (.return_, 1) := by decide +kernel
theorem dX0_isFull_0 : decode cX0_isFull 0 = .ok (.aload_n 0, 1) := by decide +kernel
theorem dX0_isFull_1 : decode cX0_isFull 1 = .ok (.getfield 41, 3) := by decide +kernel
theorem dX0_isFull_4 : decode cX0_isFull 4 = .ok (.bipush 60, 2) := by decide +kernel
theorem dX0_isFull_6 : decode cX0_isFull 6 = .ok (.if_icmp .lt 7, 3) := by decide +kernel
theorem dX0_isFull_9 : decode cX0_isFull 9 = .ok (.iconst 1, 1) := by decide +kernel
theorem dX0_isFull_10 : decode cX0_isFull 10 = .ok (.goto 4, 3) := by decide +kernel
theorem dX0_isFull_13 : decode cX0_isFull 13 = .ok (.iconst 0, 1) := by decide +kernel
theorem dX0_isFull_14 : decode cX0_isFull 14 = .ok (.ireturn, 1) := by decide +kernel
theorem dX0_begin_0 : decode cX0_begin 0 = .ok (.aload_n 0, 1) := by decide +kernel
theorem dX0_begin_1 : decode cX0_begin 1 = .ok (.getfield 41, 3) := by decide +kernel
theorem dX0_begin_4 : decode cX0_begin 4 = .ok (.istore 5, 2) := by decide +kernel
theorem dX0_begin_6 : decode cX0_begin 6 = .ok (.aload_n 0, 1) := by decide +kernel
theorem dX0_begin_7 : decode cX0_begin 7 = .ok (.getfield 14, 3) := by decide +kernel
theorem dX0_begin_10 : decode cX0_begin 10 = .ok (.iload 5, 2) := by decide +kernel
theorem dX0_begin_12 : decode cX0_begin 12 = .ok (.iload_n 1, 1) := by decide +kernel
theorem dX0_begin_13 : decode cX0_begin 13 = .ok (.invokevirtual 45, 3) := by decide +kernel
theorem dX0_begin_16 : decode cX0_begin 16 = .ok (.aload_n 0, 1) := by decide +kernel
theorem dX0_begin_17 : decode cX0_begin 17 = .ok (.getfield 20, 3) := by decide +kernel
theorem dX0_begin_20 : decode cX0_begin 20 = .ok (.iload 5, 2) := by decide +kernel
theorem dX0_begin_22 : decode cX0_begin 22 = .ok (.iload_n 2, 1) := by decide +kernel
theorem dX0_begin_23 : decode cX0_begin 23 = .ok (.invokevirtual 45, 3) := by decide +kernel
theorem dX0_begin_26 : decode cX0_begin 26 = .ok (.aload_n 0, 1) := by decide +kernel
theorem dX0_begin_27 : decode cX0_begin 27 = .ok (.getfield 23, 3) := by decide +kernel
theorem dX0_begin_30 : decode cX0_begin 30 = .ok (.iload 5, 2) := by decide +kernel
theorem dX0_begin_32 : decode cX0_begin 32 = .ok (.iload_n 3, 1) := by decide +kernel
theorem dX0_begin_33 : decode cX0_begin 33 = .ok (.invokevirtual 45, 3) := by decide +kernel
theorem dX0_begin_36 : decode cX0_begin 36 = .ok (.aload_n 0, 1) := by decide +kernel
theorem dX0_begin_37 : decode cX0_begin 37 = .ok (.getfield 35, 3) := by decide +kernel
theorem dX0_begin_40 : decode cX0_begin 40 = .ok (.iload 5, 2) := by decide +kernel
theorem dX0_begin_42 : decode cX0_begin 42 = .ok (.aload 4, 2) := by decide +kernel
theorem dX0_begin_44 : decode cX0_begin 44 = .ok (.getfield 48, 3) := by decide +kernel
theorem dX0_begin_47 : decode cX0_begin 47 = .ok (.invokevirtual 45, 3) := by decide +kernel
theorem dX0_begin_50 : decode cX0_begin 50 = .ok (.iconst 0, 1) := by decide +kernel
theorem dX0_begin_51 : decode cX0_begin 51 = .ok (.istore 6, 2) := by decide +kernel
theorem dX0_begin_53 : decode cX0_begin 53 = .ok (.iload 6, 2) := by decide +kernel
theorem dX0_begin_55 : decode cX0_begin 55 = .ok (.aload 4, 2) := by decide +kernel
theorem dX0_begin_57 : decode cX0_begin 57 = .ok (.getfield 48, 3) := by decide +kernel
theorem dX0_begin_60 : decode cX0_begin 60 = .ok (.if_icmp .ge 33, 3) := by decide +kernel
theorem dX0_begin_63 : decode cX0_begin 63 = .ok (.aload_n 0, 1) := by decide +kernel
theorem dX0_begin_64 : decode cX0_begin 64 = .ok (.getfield 38, 3) := by decide +kernel
theorem dX0_begin_67 : decode cX0_begin 67 = .ok (.iload 5, 2) := by decide +kernel
theorem dX0_begin_69 : decode cX0_begin 69 = .ok (.iconst 5, 1) := by decide +kernel
theorem dX0_begin_70 : decode cX0_begin 70 = .ok (.imul, 1) := by decide +kernel
theorem dX0_begin_71 : decode cX0_begin 71 = .ok (.iload 6, 2) := by decide +kernel
theorem dX0_begin_73 : decode cX0_begin 73 = .ok (.iadd, 1) := by decide +kernel
theorem dX0_begin_74 : decode cX0_begin 74 = .ok (.aload 4, 2) := by decide +kernel
theorem dX0_begin_76 : decode cX0_begin 76 = .ok (.getfield 53, 3) := by decide +kernel
theorem dX0_begin_79 : decode cX0_begin 79 = .ok (.iload 6, 2) := by decide +kernel
theorem dX0_begin_81 : decode cX0_begin 81 = .ok (.invokevirtual 54, 3) := by decide +kernel
theorem dX0_begin_84 : decode cX0_begin 84 = .ok (.invokevirtual 45, 3) := by decide +kernel
theorem dX0_begin_87 : decode cX0_begin 87 = .ok (.iinc 6 1, 3) := by decide +kernel
theorem dX0_begin_90 : decode cX0_begin 90 = .ok (.goto (-37), 3) := by decide +kernel
theorem dX0_begin_93 : decode cX0_begin 93 = .ok (.aload_n 0, 1) := by decide +kernel
theorem dX0_begin_94 : decode cX0_begin 94 = .ok (.dup, 1) := by decide +kernel
theorem dX0_begin_95 : decode cX0_begin 95 = .ok (.getfield 41, 3) := by decide +kernel
theorem dX0_begin_98 : decode cX0_begin 98 = .ok (.iconst 1, 1) := by decide +kernel
theorem dX0_begin_99 : decode cX0_begin 99 = .ok (.iadd, 1) := by decide +kernel
theorem dX0_begin_100 : decode cX0_begin 100 = .ok (.putfield 41, 3) := by decide +kernel
theorem dX0_begin_103 : decode cX0_begin 103 = .ok (.iload 5, 2) := by decide +kernel
theorem dX0_begin_105 : decode cX0_begin 105 = .ok (.ireturn, 1) := by decide +kernel
theorem dX0_end_0 : decode cX0_end 0 = .ok (.aload_n 0, 1) := by decide +kernel
theorem dX0_end_1 : decode cX0_end 1 = .ok (.getfield 26, 3) := by decide +kernel
theorem dX0_end_4 : decode cX0_end 4 = .ok (.iload_n 1, 1) := by decide +kernel
theorem dX0_end_5 : decode cX0_end 5 = .ok (.iload_n 2, 1) := by decide +kernel
theorem dX0_end_6 : decode cX0_end 6 = .ok (.invokevirtual 45, 3) := by decide +kernel
theorem dX0_end_9 : decode cX0_end 9 = .ok (.aload_n 0, 1) := by decide +kernel
theorem dX0_end_10 : decode cX0_end 10 = .ok (.getfield 29, 3) := by decide +kernel
theorem dX0_end_13 : decode cX0_end 13 = .ok (.iload_n 1, 1) := by decide +kernel
theorem dX0_end_14 : decode cX0_end 14 = .ok (.iload_n 3, 1) := by decide +kernel
theorem dX0_end_15 : decode cX0_end 15 = .ok (.invokevirtual 45, 3) := by decide +kernel
theorem dX0_end_18 : decode cX0_end 18 = .ok (.return_, 1) := by decide +kernel
theorem dX0_goesOn_0 : decode cX0_goesOn 0 = .ok (.aload_n 0, 1) := by decide +kernel
theorem dX0_goesOn_1 : decode cX0_goesOn 1 = .ok (.getfield 29, 3) := by decide +kernel
theorem dX0_goesOn_4 : decode cX0_goesOn 4 = .ok (.iload_n 1, 1) := by decide +kernel
theorem dX0_goesOn_5 : decode cX0_goesOn 5 = .ok (.invokevirtual 54, 3) := by decide +kernel
theorem dX0_goesOn_8 : decode cX0_goesOn 8 = .ok (.ifCond .ne 7, 3) := by decide +kernel
theorem dX0_goesOn_11 : decode cX0_goesOn 11 = .ok (.iconst 1, 1) := by decide +kernel
theorem dX0_goesOn_12 : decode cX0_goesOn 12 = .ok (.goto 4, 3) := by decide +kernel
theorem dX0_goesOn_15 : decode cX0_goesOn 15 = .ok (.iconst 0, 1) := by decide +kernel
theorem dX0_goesOn_16 : decode cX0_goesOn 16 = .ok (.ireturn, 1) := by decide +kernel
theorem dX0_endOf_0 : decode cX0_endOf 0 = .ok (.aload_n 0, 1) := by decide +kernel
theorem dX0_endOf_1 : decode cX0_endOf 1 = .ok (.iload_n 1, 1) := by decide +kernel
theorem dX0_endOf_2 : decode cX0_endOf 2 = .ok (.invokevirtual 58, 3) := by decide +kernel
theorem dX0_endOf_5 : decode cX0_endOf 5 = .ok (.ifCond .eq 7, 3) := by decide +kernel
theorem dX0_endOf_8 : decode cX0_endOf 8 = .ok (.iload_n 2, 1) := by decide +kernel
theorem dX0_endOf_9 : decode cX0_endOf 9 = .ok (.goto 11, 3) := by decide +kernel
theorem dX0_endOf_12 : decode cX0_endOf 12 = .ok (.aload_n 0, 1) := by decide +kernel
theorem dX0_endOf_13 : decode cX0_endOf 13 = .ok (.getfield 26, 3) := by decide +kernel
theorem dX0_endOf_16 : decode cX0_endOf 16 = .ok (.iload_n 1, 1) := by decide +kernel
theorem dX0_endOf_17 : decode cX0_endOf 17 = .ok (.invokevirtual 54, 3) := by decide +kernel
theorem dX0_endOf_20 : decode cX0_endOf 20 = .ok (.ireturn, 1) := by decide +kernel
theorem dX0_lasted_0 : decode cX0_lasted 0 = .ok (.aload_n 0, 1) := by decide +kernel
theorem dX0_lasted_1 : decode cX0_lasted 1 = .ok (.iload_n 1, 1) := by decide +kernel
theorem dX0_lasted_2 : decode cX0_lasted 2 = .ok (.iload_n 2, 1) := by decide +kernel
theorem dX0_lasted_3 : decode cX0_lasted 3 = .ok (.invokevirtual 62, 3) := by decide +kernel
theorem dX0_lasted_6 : decode cX0_lasted 6 = .ok (.aload_n 0, 1) := by decide +kernel
theorem dX0_lasted_7 : decode cX0_lasted 7 = .ok (.getfield 23, 3) := by decide +kernel
theorem dX0_lasted_10 : decode cX0_lasted 10 = .ok (.iload_n 1, 1) := by decide +kernel
theorem dX0_lasted_11 : decode cX0_lasted 11 = .ok (.invokevirtual 54, 3) := by decide +kernel
theorem dX0_lasted_14 : decode cX0_lasted 14 = .ok (.isub, 1) := by decide +kernel
theorem dX0_lasted_15 : decode cX0_lasted 15 = .ok (.ireturn, 1) := by decide +kernel
theorem dX0_stop_0 : decode cX0_stop 0 = .ok (.aload_n 0, 1) := by decide +kernel
theorem dX0_stop_1 : decode cX0_stop 1 = .ok (.getfield 38, 3) := by decide +kernel
theorem dX0_stop_4 : decode cX0_stop 4 = .ok (.iload_n 1, 1) := by decide +kernel
theorem dX0_stop_5 : decode cX0_stop 5 = .ok (.iconst 5, 1) := by decide +kernel
theorem dX0_stop_6 : decode cX0_stop 6 = .ok (.imul, 1) := by decide +kernel
theorem dX0_stop_7 : decode cX0_stop 7 = .ok (.iload_n 2, 1) := by decide +kernel
theorem dX0_stop_8 : decode cX0_stop 8 = .ok (.iadd, 1) := by decide +kernel
theorem dX0_stop_9 : decode cX0_stop 9 = .ok (.invokevirtual 54, 3) := by decide +kernel
theorem dX0_stop_12 : decode cX0_stop 12 = .ok (.ireturn, 1) := by decide +kernel
theorem dX0_placeOf_0 : decode cX0_placeOf 0 = .ok (.aload_n 0, 1) := by decide +kernel
theorem dX0_placeOf_1 : decode cX0_placeOf 1 = .ok (.getfield 35, 3) := by decide +kernel
theorem dX0_placeOf_4 : decode cX0_placeOf 4 = .ok (.iload_n 1, 1) := by decide +kernel
theorem dX0_placeOf_5 : decode cX0_placeOf 5 = .ok (.invokevirtual 54, 3) := by decide +kernel
theorem dX0_placeOf_8 : decode cX0_placeOf 8 = .ok (.istore_n 3, 1) := by decide +kernel
theorem dX0_placeOf_9 : decode cX0_placeOf 9 = .ok (.iconst 0, 1) := by decide +kernel
theorem dX0_placeOf_10 : decode cX0_placeOf 10 = .ok (.istore 4, 2) := by decide +kernel
theorem dX0_placeOf_12 : decode cX0_placeOf 12 = .ok (.iload 4, 2) := by decide +kernel
theorem dX0_placeOf_14 : decode cX0_placeOf 14 = .ok (.iload_n 3, 1) := by decide +kernel
theorem dX0_placeOf_15 : decode cX0_placeOf 15 = .ok (.if_icmp .ge 23, 3) := by decide +kernel
theorem dX0_placeOf_18 : decode cX0_placeOf 18 = .ok (.aload_n 0, 1) := by decide +kernel
theorem dX0_placeOf_19 : decode cX0_placeOf 19 = .ok (.iload_n 1, 1) := by decide +kernel
theorem dX0_placeOf_20 : decode cX0_placeOf 20 = .ok (.iload 4, 2) := by decide +kernel
theorem dX0_placeOf_22 : decode cX0_placeOf 22 = .ok (.invokevirtual 66, 3) := by decide +kernel
theorem dX0_placeOf_25 : decode cX0_placeOf 25 = .ok (.iload_n 2, 1) := by decide +kernel
theorem dX0_placeOf_26 : decode cX0_placeOf 26 = .ok (.if_icmp .ne 6, 3) := by decide +kernel
theorem dX0_placeOf_29 : decode cX0_placeOf 29 = .ok (.iload 4, 2) := by decide +kernel
theorem dX0_placeOf_31 : decode cX0_placeOf 31 = .ok (.ireturn, 1) := by decide +kernel
theorem dX0_placeOf_32 : decode cX0_placeOf 32 = .ok (.iinc 4 1, 3) := by decide +kernel
theorem dX0_placeOf_35 : decode cX0_placeOf 35 = .ok (.goto (-23), 3) := by decide +kernel
theorem dX0_placeOf_38 : decode cX0_placeOf 38 = .ok (.iconst (-1), 1) := by decide +kernel
theorem dX0_placeOf_39 : decode cX0_placeOf 39 = .ok (.ireturn, 1) := by decide +kernel
theorem dX1_init_0 : decode cX1_init 0 = .ok (.aload_n 0, 1) := by decide +kernel
theorem dX1_init_1 : decode cX1_init 1 = .ok (.invokespecial 3, 3) := by decide +kernel
theorem dX1_init_4 : decode cX1_init 4 = .ok (.aload_n 0, 1) := by decide +kernel
theorem dX1_init_5 : decode cX1_init 5 = .ok (.new 9, 3) := by decide +kernel
theorem dX1_init_8 : decode cX1_init 8 = .ok (.dup, 1) := by decide +kernel
theorem dX1_init_9 : decode cX1_init 9 = .ok (.iconst 5, 1) := by decide +kernel
theorem dX1_init_10 : decode cX1_init 10 = .ok (.bipush 100, 2) := by decide +kernel
theorem dX1_init_12 : decode cX1_init 12 = .ok (.invokespecial 11, 3) := by decide +kernel
theorem dX1_init_15 : decode cX1_init 15 = .ok (.putfield 14, 3) := by decide +kernel
theorem dX1_init_18 : decode cX1_init 18 = .ok (.aload_n 0, 1) := by decide +kernel
theorem dX1_init_19 : decode cX1_init 19 = .ok (.new 9, 3) := by decide +kernel
theorem dX1_init_22 : decode cX1_init 22 = .ok (.dup, 1) := by decide +kernel
theorem dX1_init_23 : decode cX1_init 23 = .ok (.iconst 5, 1) := by decide +kernel
theorem dX1_init_24 : decode cX1_init 24 = .ok (.iconst 0, 1) := by decide +kernel
theorem dX1_init_25 : decode cX1_init 25 = .ok (.invokespecial 11, 3) := by decide +kernel
theorem dX1_init_28 : decode cX1_init 28 = .ok (.putfield 20, 3) := by decide +kernel
theorem dX1_init_31 : decode cX1_init 31 = .ok (.aload_n 0, 1) := by decide +kernel
theorem dX1_init_32 : decode cX1_init 32 = .ok (.new 9, 3) := by decide +kernel
theorem dX1_init_35 : decode cX1_init 35 = .ok (.dup, 1) := by decide +kernel
theorem dX1_init_36 : decode cX1_init 36 = .ok (.iconst 5, 1) := by decide +kernel
theorem dX1_init_37 : decode cX1_init 37 = .ok (.iconst 0, 1) := by decide +kernel
theorem dX1_init_38 : decode cX1_init 38 = .ok (.invokespecial 11, 3) := by decide +kernel
theorem dX1_init_41 : decode cX1_init 41 = .ok (.putfield 23, 3) := by decide +kernel
theorem dX1_init_44 : decode cX1_init 44 = .ok (.aload_n 0, 1) := by decide +kernel
theorem dX1_init_45 : decode cX1_init 45 = .ok (.new 9, 3) := by decide +kernel
theorem dX1_init_48 : decode cX1_init 48 = .ok (.dup, 1) := by decide +kernel
theorem dX1_init_49 : decode cX1_init 49 = .ok (.iconst 5, 1) := by decide +kernel
theorem dX1_init_50 : decode cX1_init 50 = .ok (.iconst 0, 1) := by decide +kernel
theorem dX1_init_51 : decode cX1_init 51 = .ok (.invokespecial 11, 3) := by decide +kernel
theorem dX1_init_54 : decode cX1_init 54 = .ok (.putfield 26, 3) := by decide +kernel
theorem dX1_init_57 : decode cX1_init 57 = .ok (.return_, 1) := by decide +kernel
theorem dX1_give_0 : decode cX1_give 0 = .ok (.aload_n 0, 1) := by decide +kernel
theorem dX1_give_1 : decode cX1_give 1 = .ok (.getfield 20, 3) := by decide +kernel
theorem dX1_give_4 : decode cX1_give 4 = .ok (.iload_n 1, 1) := by decide +kernel
theorem dX1_give_5 : decode cX1_give 5 = .ok (.iload_n 3, 1) := by decide +kernel
theorem dX1_give_6 : decode cX1_give 6 = .ok (.ineg, 1) := by decide +kernel
theorem dX1_give_7 : decode cX1_give 7 = .ok (.invokevirtual 29, 3) := by decide +kernel
theorem dX1_give_10 : decode cX1_give 10 = .ok (.aload_n 0, 1) := by decide +kernel
theorem dX1_give_11 : decode cX1_give 11 = .ok (.getfield 20, 3) := by decide +kernel
theorem dX1_give_14 : decode cX1_give 14 = .ok (.iload_n 2, 1) := by decide +kernel
theorem dX1_give_15 : decode cX1_give 15 = .ok (.iload_n 3, 1) := by decide +kernel
theorem dX1_give_16 : decode cX1_give 16 = .ok (.invokevirtual 29, 3) := by decide +kernel
theorem dX1_give_19 : decode cX1_give 19 = .ok (.return_, 1) := by decide +kernel
theorem dX1_payLoss_0 : decode cX1_payLoss 0 = .ok (.aload_n 0, 1) := by decide +kernel
theorem dX1_payLoss_1 : decode cX1_payLoss 1 = .ok (.iload_n 1, 1) := by decide +kernel
theorem dX1_payLoss_2 : decode cX1_payLoss 2 = .ok (.iload_n 2, 1) := by decide +kernel
theorem dX1_payLoss_3 : decode cX1_payLoss 3 = .ok (.iconst 5, 1) := by decide +kernel
theorem dX1_payLoss_4 : decode cX1_payLoss 4 = .ok (.invokevirtual 32, 3) := by decide +kernel
theorem dX1_payLoss_7 : decode cX1_payLoss 7 = .ok (.aload_n 0, 1) := by decide +kernel
theorem dX1_payLoss_8 : decode cX1_payLoss 8 = .ok (.getfield 26, 3) := by decide +kernel
theorem dX1_payLoss_11 : decode cX1_payLoss 11 = .ok (.iload_n 1, 1) := by decide +kernel
theorem dX1_payLoss_12 : decode cX1_payLoss 12 = .ok (.iconst 5, 1) := by decide +kernel
theorem dX1_payLoss_13 : decode cX1_payLoss 13 = .ok (.invokevirtual 29, 3) := by decide +kernel
theorem dX1_payLoss_16 : decode cX1_payLoss 16 = .ok (.return_, 1) := by decide +kernel
theorem dX2_init_0 : decode cX2_init 0 = .ok (.aload_n 0, 1) := by decide +kernel
theorem dX2_init_1 : decode cX2_init 1 = .ok (.invokespecial 3, 3) := by decide +kernel
theorem dX2_init_4 : decode cX2_init 4 = .ok (.aload_n 0, 1) := by decide +kernel
theorem dX2_init_5 : decode cX2_init 5 = .ok (.new 9, 3) := by decide +kernel
theorem dX2_init_8 : decode cX2_init 8 = .ok (.dup, 1) := by decide +kernel
theorem dX2_init_9 : decode cX2_init 9 = .ok (.bipush 60, 2) := by decide +kernel
theorem dX2_init_11 : decode cX2_init 11 = .ok (.iconst 0, 1) := by decide +kernel
theorem dX2_init_12 : decode cX2_init 12 = .ok (.invokespecial 11, 3) := by decide +kernel
theorem dX2_init_15 : decode cX2_init 15 = .ok (.putfield 14, 3) := by decide +kernel
theorem dX2_init_18 : decode cX2_init 18 = .ok (.aload_n 0, 1) := by decide +kernel
theorem dX2_init_19 : decode cX2_init 19 = .ok (.new 9, 3) := by decide +kernel
theorem dX2_init_22 : decode cX2_init 22 = .ok (.dup, 1) := by decide +kernel
theorem dX2_init_23 : decode cX2_init 23 = .ok (.bipush 60, 2) := by decide +kernel
theorem dX2_init_25 : decode cX2_init 25 = .ok (.iconst 0, 1) := by decide +kernel
theorem dX2_init_26 : decode cX2_init 26 = .ok (.invokespecial 11, 3) := by decide +kernel
theorem dX2_init_29 : decode cX2_init 29 = .ok (.putfield 20, 3) := by decide +kernel
theorem dX2_init_32 : decode cX2_init 32 = .ok (.aload_n 0, 1) := by decide +kernel
theorem dX2_init_33 : decode cX2_init 33 = .ok (.new 9, 3) := by decide +kernel
theorem dX2_init_36 : decode cX2_init 36 = .ok (.dup, 1) := by decide +kernel
theorem dX2_init_37 : decode cX2_init 37 = .ok (.bipush 60, 2) := by decide +kernel
theorem dX2_init_39 : decode cX2_init 39 = .ok (.iconst 0, 1) := by decide +kernel
theorem dX2_init_40 : decode cX2_init 40 = .ok (.invokespecial 11, 3) := by decide +kernel
theorem dX2_init_43 : decode cX2_init 43 = .ok (.putfield 23, 3) := by decide +kernel
theorem dX2_init_46 : decode cX2_init 46 = .ok (.aload_n 0, 1) := by decide +kernel
theorem dX2_init_47 : decode cX2_init 47 = .ok (.iconst 0, 1) := by decide +kernel
theorem dX2_init_48 : decode cX2_init 48 = .ok (.putfield 26, 3) := by decide +kernel
theorem dX2_init_51 : decode cX2_init 51 = .ok (.return_, 1) := by decide +kernel
theorem dX2_isFull_0 : decode cX2_isFull 0 = .ok (.aload_n 0, 1) := by decide +kernel
theorem dX2_isFull_1 : decode cX2_isFull 1 = .ok (.getfield 26, 3) := by decide +kernel
theorem dX2_isFull_4 : decode cX2_isFull 4 = .ok (.bipush 60, 2) := by decide +kernel
theorem dX2_isFull_6 : decode cX2_isFull 6 = .ok (.if_icmp .lt 7, 3) := by decide +kernel
theorem dX2_isFull_9 : decode cX2_isFull 9 = .ok (.iconst 1, 1) := by decide +kernel
theorem dX2_isFull_10 : decode cX2_isFull 10 = .ok (.goto 4, 3) := by decide +kernel
theorem dX2_isFull_13 : decode cX2_isFull 13 = .ok (.iconst 0, 1) := by decide +kernel
theorem dX2_isFull_14 : decode cX2_isFull 14 = .ok (.ireturn, 1) := by decide +kernel
theorem dX2_add_0 : decode cX2_add 0 = .ok (.aload_n 0, 1) := by decide +kernel
theorem dX2_add_1 : decode cX2_add 1 = .ok (.invokevirtual 30, 3) := by decide +kernel
theorem dX2_add_4 : decode cX2_add 4 = .ok (.ifCond .eq 4, 3) := by decide +kernel
theorem dX2_add_7 : decode cX2_add 7 = .ok (.return_, 1) := by decide +kernel
theorem dX2_add_8 : decode cX2_add 8 = .ok (.aload_n 0, 1) := by decide +kernel
theorem dX2_add_9 : decode cX2_add 9 = .ok (.getfield 14, 3) := by decide +kernel
theorem dX2_add_12 : decode cX2_add 12 = .ok (.aload_n 0, 1) := by decide +kernel
theorem dX2_add_13 : decode cX2_add 13 = .ok (.getfield 26, 3) := by decide +kernel
theorem dX2_add_16 : decode cX2_add 16 = .ok (.iload_n 1, 1) := by decide +kernel
theorem dX2_add_17 : decode cX2_add 17 = .ok (.invokevirtual 34, 3) := by decide +kernel
theorem dX2_add_20 : decode cX2_add 20 = .ok (.aload_n 0, 1) := by decide +kernel
theorem dX2_add_21 : decode cX2_add 21 = .ok (.getfield 20, 3) := by decide +kernel
theorem dX2_add_24 : decode cX2_add 24 = .ok (.aload_n 0, 1) := by decide +kernel
theorem dX2_add_25 : decode cX2_add 25 = .ok (.getfield 26, 3) := by decide +kernel
theorem dX2_add_28 : decode cX2_add 28 = .ok (.iload_n 2, 1) := by decide +kernel
theorem dX2_add_29 : decode cX2_add 29 = .ok (.invokevirtual 34, 3) := by decide +kernel
theorem dX2_add_32 : decode cX2_add 32 = .ok (.aload_n 0, 1) := by decide +kernel
theorem dX2_add_33 : decode cX2_add 33 = .ok (.getfield 23, 3) := by decide +kernel
theorem dX2_add_36 : decode cX2_add 36 = .ok (.aload_n 0, 1) := by decide +kernel
theorem dX2_add_37 : decode cX2_add 37 = .ok (.getfield 26, 3) := by decide +kernel
theorem dX2_add_40 : decode cX2_add 40 = .ok (.iload_n 3, 1) := by decide +kernel
theorem dX2_add_41 : decode cX2_add 41 = .ok (.invokevirtual 34, 3) := by decide +kernel
theorem dX2_add_44 : decode cX2_add 44 = .ok (.aload_n 0, 1) := by decide +kernel
theorem dX2_add_45 : decode cX2_add 45 = .ok (.dup, 1) := by decide +kernel
theorem dX2_add_46 : decode cX2_add 46 = .ok (.getfield 26, 3) := by decide +kernel
theorem dX2_add_49 : decode cX2_add 49 = .ok (.iconst 1, 1) := by decide +kernel
theorem dX2_add_50 : decode cX2_add 50 = .ok (.iadd, 1) := by decide +kernel
theorem dX2_add_51 : decode cX2_add 51 = .ok (.putfield 26, 3) := by decide +kernel
theorem dX2_add_54 : decode cX2_add 54 = .ok (.return_, 1) := by decide +kernel
theorem dX2_valueAt_0 : decode cX2_valueAt 0 = .ok (.aload_n 0, 1) := by decide +kernel
theorem dX2_valueAt_1 : decode cX2_valueAt 1 = .ok (.getfield 26, 3) := by decide +kernel
theorem dX2_valueAt_4 : decode cX2_valueAt 4 = .ok (.iconst 1, 1) := by decide +kernel
theorem dX2_valueAt_5 : decode cX2_valueAt 5 = .ok (.isub, 1) := by decide +kernel
theorem dX2_valueAt_6 : decode cX2_valueAt 6 = .ok (.istore 4, 2) := by decide +kernel
theorem dX2_valueAt_8 : decode cX2_valueAt 8 = .ok (.iload 4, 2) := by decide +kernel
theorem dX2_valueAt_10 : decode cX2_valueAt 10 = .ok (.ifCond .lt 45, 3) := by decide +kernel
theorem dX2_valueAt_13 : decode cX2_valueAt 13 = .ok (.aload_n 0, 1) := by decide +kernel
theorem dX2_valueAt_14 : decode cX2_valueAt 14 = .ok (.getfield 14, 3) := by decide +kernel
theorem dX2_valueAt_17 : decode cX2_valueAt 17 = .ok (.iload 4, 2) := by decide +kernel
theorem dX2_valueAt_19 : decode cX2_valueAt 19 = .ok (.invokevirtual 37, 3) := by decide +kernel
theorem dX2_valueAt_22 : decode cX2_valueAt 22 = .ok (.iload_n 1, 1) := by decide +kernel
theorem dX2_valueAt_23 : decode cX2_valueAt 23 = .ok (.if_icmp .ne 26, 3) := by decide +kernel
theorem dX2_valueAt_26 : decode cX2_valueAt 26 = .ok (.aload_n 0, 1) := by decide +kernel
theorem dX2_valueAt_27 : decode cX2_valueAt 27 = .ok (.getfield 20, 3) := by decide +kernel
theorem dX2_valueAt_30 : decode cX2_valueAt 30 = .ok (.iload 4, 2) := by decide +kernel
theorem dX2_valueAt_32 : decode cX2_valueAt 32 = .ok (.invokevirtual 37, 3) := by decide +kernel
theorem dX2_valueAt_35 : decode cX2_valueAt 35 = .ok (.iload_n 2, 1) := by decide +kernel
theorem dX2_valueAt_36 : decode cX2_valueAt 36 = .ok (.if_icmp .gt 13, 3) := by decide +kernel
theorem dX2_valueAt_39 : decode cX2_valueAt 39 = .ok (.aload_n 0, 1) := by decide +kernel
theorem dX2_valueAt_40 : decode cX2_valueAt 40 = .ok (.getfield 23, 3) := by decide +kernel
theorem dX2_valueAt_43 : decode cX2_valueAt 43 = .ok (.iload 4, 2) := by decide +kernel
theorem dX2_valueAt_45 : decode cX2_valueAt 45 = .ok (.invokevirtual 37, 3) := by decide +kernel
theorem dX2_valueAt_48 : decode cX2_valueAt 48 = .ok (.ireturn, 1) := by decide +kernel
theorem dX2_valueAt_49 : decode cX2_valueAt 49 = .ok (.iinc 4 (-1), 3) := by decide +kernel
theorem dX2_valueAt_52 : decode cX2_valueAt 52 = .ok (.goto (-44), 3) := by decide +kernel
theorem dX2_valueAt_55 : decode cX2_valueAt 55 = .ok (.iload_n 3, 1) := by decide +kernel
theorem dX2_valueAt_56 : decode cX2_valueAt 56 = .ok (.ireturn, 1) := by decide +kernel
theorem dX2_nextAfter_0 : decode cX2_nextAfter 0 = .ok (.iconst 0, 1) := by decide +kernel
theorem dX2_nextAfter_1 : decode cX2_nextAfter 1 = .ok (.istore 4, 2) := by decide +kernel
theorem dX2_nextAfter_3 : decode cX2_nextAfter 3 = .ok (.iload 4, 2) := by decide +kernel
theorem dX2_nextAfter_5 : decode cX2_nextAfter 5 = .ok (.aload_n 0, 1) := by decide +kernel
theorem dX2_nextAfter_6 : decode cX2_nextAfter 6 = .ok (.getfield 26, 3) := by decide +kernel
theorem dX2_nextAfter_9 : decode cX2_nextAfter 9 = .ok (.if_icmp .ge 49, 3) := by decide +kernel
theorem dX2_nextAfter_12 : decode cX2_nextAfter 12 = .ok (.aload_n 0, 1) := by decide +kernel
theorem dX2_nextAfter_13 : decode cX2_nextAfter 13 = .ok (.getfield 14, 3) := by decide +kernel
theorem dX2_nextAfter_16 : decode cX2_nextAfter 16 = .ok (.iload 4, 2) := by decide +kernel
theorem dX2_nextAfter_18 : decode cX2_nextAfter 18 = .ok (.invokevirtual 37, 3) := by decide +kernel
theorem dX2_nextAfter_21 : decode cX2_nextAfter 21 = .ok (.iload_n 1, 1) := by decide +kernel
theorem dX2_nextAfter_22 : decode cX2_nextAfter 22 = .ok (.if_icmp .ne 30, 3) := by decide +kernel
theorem dX2_nextAfter_25 : decode cX2_nextAfter 25 = .ok (.aload_n 0, 1) := by decide +kernel
theorem dX2_nextAfter_26 : decode cX2_nextAfter 26 = .ok (.getfield 20, 3) := by decide +kernel
theorem dX2_nextAfter_29 : decode cX2_nextAfter 29 = .ok (.iload 4, 2) := by decide +kernel
theorem dX2_nextAfter_31 : decode cX2_nextAfter 31 = .ok (.invokevirtual 37, 3) := by decide +kernel
theorem dX2_nextAfter_34 : decode cX2_nextAfter 34 = .ok (.iload_n 2, 1) := by decide +kernel
theorem dX2_nextAfter_35 : decode cX2_nextAfter 35 = .ok (.if_icmp .le 17, 3) := by decide +kernel
theorem dX2_nextAfter_38 : decode cX2_nextAfter 38 = .ok (.aload_n 0, 1) := by decide +kernel
theorem dX2_nextAfter_39 : decode cX2_nextAfter 39 = .ok (.getfield 20, 3) := by decide +kernel
theorem dX2_nextAfter_42 : decode cX2_nextAfter 42 = .ok (.iload 4, 2) := by decide +kernel
theorem dX2_nextAfter_44 : decode cX2_nextAfter 44 = .ok (.invokevirtual 37, 3) := by decide +kernel
theorem dX2_nextAfter_47 : decode cX2_nextAfter 47 = .ok (.iload_n 3, 1) := by decide +kernel
theorem dX2_nextAfter_48 : decode cX2_nextAfter 48 = .ok (.invokestatic 41, 3) := by decide +kernel
theorem dX2_nextAfter_51 : decode cX2_nextAfter 51 = .ok (.ireturn, 1) := by decide +kernel
theorem dX2_nextAfter_52 : decode cX2_nextAfter 52 = .ok (.iinc 4 1, 3) := by decide +kernel
theorem dX2_nextAfter_55 : decode cX2_nextAfter 55 = .ok (.goto (-52), 3) := by decide +kernel
theorem dX2_nextAfter_58 : decode cX2_nextAfter 58 = .ok (.iload_n 3, 1) := by decide +kernel
theorem dX2_nextAfter_59 : decode cX2_nextAfter 59 = .ok (.ireturn, 1) := by decide +kernel
theorem dX3_init_0 : decode cX3_init 0 = .ok (.aload_n 0, 1) := by decide +kernel
theorem dX3_init_1 : decode cX3_init 1 = .ok (.invokespecial 3, 3) := by decide +kernel
theorem dX3_init_4 : decode cX3_init 4 = .ok (.aload_n 0, 1) := by decide +kernel
theorem dX3_init_5 : decode cX3_init 5 = .ok (.new 9, 3) := by decide +kernel
theorem dX3_init_8 : decode cX3_init 8 = .ok (.dup, 1) := by decide +kernel
theorem dX3_init_9 : decode cX3_init 9 = .ok (.bipush 12, 2) := by decide +kernel
theorem dX3_init_11 : decode cX3_init 11 = .ok (.iconst 0, 1) := by decide +kernel
theorem dX3_init_12 : decode cX3_init 12 = .ok (.invokespecial 11, 3) := by decide +kernel
theorem dX3_init_15 : decode cX3_init 15 = .ok (.putfield 14, 3) := by decide +kernel
theorem dX3_init_18 : decode cX3_init 18 = .ok (.aload_n 0, 1) := by decide +kernel
theorem dX3_init_19 : decode cX3_init 19 = .ok (.new 9, 3) := by decide +kernel
theorem dX3_init_22 : decode cX3_init 22 = .ok (.dup, 1) := by decide +kernel
theorem dX3_init_23 : decode cX3_init 23 = .ok (.bipush 12, 2) := by decide +kernel
theorem dX3_init_25 : decode cX3_init 25 = .ok (.iconst 0, 1) := by decide +kernel
theorem dX3_init_26 : decode cX3_init 26 = .ok (.invokespecial 11, 3) := by decide +kernel
theorem dX3_init_29 : decode cX3_init 29 = .ok (.putfield 20, 3) := by decide +kernel
theorem dX3_init_32 : decode cX3_init 32 = .ok (.aload_n 0, 1) := by decide +kernel
theorem dX3_init_33 : decode cX3_init 33 = .ok (.new 9, 3) := by decide +kernel
theorem dX3_init_36 : decode cX3_init 36 = .ok (.dup, 1) := by decide +kernel
theorem dX3_init_37 : decode cX3_init 37 = .ok (.bipush 12, 2) := by decide +kernel
theorem dX3_init_39 : decode cX3_init 39 = .ok (.iconst 0, 1) := by decide +kernel
theorem dX3_init_40 : decode cX3_init 40 = .ok (.invokespecial 11, 3) := by decide +kernel
theorem dX3_init_43 : decode cX3_init 43 = .ok (.putfield 23, 3) := by decide +kernel
theorem dX3_init_46 : decode cX3_init 46 = .ok (.aload_n 0, 1) := by decide +kernel
theorem dX3_init_47 : decode cX3_init 47 = .ok (.new 9, 3) := by decide +kernel
theorem dX3_init_50 : decode cX3_init 50 = .ok (.dup, 1) := by decide +kernel
theorem dX3_init_51 : decode cX3_init 51 = .ok (.bipush 12, 2) := by decide +kernel
theorem dX3_init_53 : decode cX3_init 53 = .ok (.iconst 0, 1) := by decide +kernel
theorem dX3_init_54 : decode cX3_init 54 = .ok (.invokespecial 11, 3) := by decide +kernel
theorem dX3_init_57 : decode cX3_init 57 = .ok (.putfield 26, 3) := by decide +kernel
theorem dX3_init_60 : decode cX3_init 60 = .ok (.aload_n 0, 1) := by decide +kernel
theorem dX3_init_61 : decode cX3_init 61 = .ok (.new 9, 3) := by decide +kernel
theorem dX3_init_64 : decode cX3_init 64 = .ok (.dup, 1) := by decide +kernel
theorem dX3_init_65 : decode cX3_init 65 = .ok (.bipush 12, 2) := by decide +kernel
theorem dX3_init_67 : decode cX3_init 67 = .ok (.iconst 0, 1) := by decide +kernel
theorem dX3_init_68 : decode cX3_init 68 = .ok (.invokespecial 11, 3) := by decide +kernel
theorem dX3_init_71 : decode cX3_init 71 = .ok (.putfield 29, 3) := by decide +kernel
theorem dX3_init_74 : decode cX3_init 74 = .ok (.aload_n 0, 1) := by decide +kernel
theorem dX3_init_75 : decode cX3_init 75 = .ok (.new 9, 3) := by decide +kernel
theorem dX3_init_78 : decode cX3_init 78 = .ok (.dup, 1) := by decide +kernel
theorem dX3_init_79 : decode cX3_init 79 = .ok (.bipush 12, 2) := by decide +kernel
theorem dX3_init_81 : decode cX3_init 81 = .ok (.iconst 0, 1) := by decide +kernel
theorem dX3_init_82 : decode cX3_init 82 = .ok (.invokespecial 11, 3) := by decide +kernel
theorem dX3_init_85 : decode cX3_init 85 = .ok (.putfield 32, 3) := by decide +kernel
theorem dX3_init_88 : decode cX3_init 88 = .ok (.aload_n 0, 1) := by decide +kernel
theorem dX3_init_89 : decode cX3_init 89 = .ok (.new 9, 3) := by decide +kernel
theorem dX3_init_92 : decode cX3_init 92 = .ok (.dup, 1) := by decide +kernel
theorem dX3_init_93 : decode cX3_init 93 = .ok (.bipush 12, 2) := by decide +kernel
theorem dX3_init_95 : decode cX3_init 95 = .ok (.iconst (-1), 1) := by decide +kernel
theorem dX3_init_96 : decode cX3_init 96 = .ok (.invokespecial 11, 3) := by decide +kernel
theorem dX3_init_99 : decode cX3_init 99 = .ok (.putfield 35, 3) := by decide +kernel
theorem dX3_init_102 : decode cX3_init 102 = .ok (.iconst 0, 1) := by decide +kernel
theorem dX3_init_103 : decode cX3_init 103 = .ok (.istore_n 1, 1) := by decide +kernel
theorem dX3_init_104 : decode cX3_init 104 = .ok (.iload_n 1, 1) := by decide +kernel
theorem dX3_init_105 : decode cX3_init 105 = .ok (.bipush 12, 2) := by decide +kernel
theorem dX3_init_107 : decode cX3_init 107 = .ok (.if_icmp .ge 32, 3) := by decide +kernel
theorem dX3_init_110 : decode cX3_init 110 = .ok (.aload_n 0, 1) := by decide +kernel
theorem dX3_init_111 : decode cX3_init 111 = .ok (.getfield 14, 3) := by decide +kernel
theorem dX3_init_114 : decode cX3_init 114 = .ok (.iload_n 1, 1) := by decide +kernel
theorem dX3_init_115 : decode cX3_init 115 = .ok (.iload_n 1, 1) := by decide +kernel
theorem dX3_init_116 : decode cX3_init 116 = .ok (.iconst 5, 1) := by decide +kernel
theorem dX3_init_117 : decode cX3_init 117 = .ok (.irem, 1) := by decide +kernel
theorem dX3_init_118 : decode cX3_init 118 = .ok (.invokevirtual 38, 3) := by decide +kernel
theorem dX3_init_121 : decode cX3_init 121 = .ok (.aload_n 0, 1) := by decide +kernel
theorem dX3_init_122 : decode cX3_init 122 = .ok (.getfield 20, 3) := by decide +kernel
theorem dX3_init_125 : decode cX3_init 125 = .ok (.iload_n 1, 1) := by decide +kernel
theorem dX3_init_126 : decode cX3_init 126 = .ok (.iload_n 1, 1) := by decide +kernel
theorem dX3_init_127 : decode cX3_init 127 = .ok (.bipush 6, 2) := by decide +kernel
theorem dX3_init_129 : decode cX3_init 129 = .ok (.irem, 1) := by decide +kernel
theorem dX3_init_130 : decode cX3_init 130 = .ok (.invokevirtual 38, 3) := by decide +kernel
theorem dX3_init_133 : decode cX3_init 133 = .ok (.iinc 1 1, 3) := by decide +kernel
theorem dX3_init_136 : decode cX3_init 136 = .ok (.goto (-32), 3) := by decide +kernel
theorem dX3_init_139 : decode cX3_init 139 = .ok (.return_, 1) := by decide +kernel
theorem dX4_init_0 : decode cX4_init 0 = .ok (.aload_n 0, 1) := by decide +kernel
theorem dX4_init_1 : decode cX4_init 1 = .ok (.invokespecial 3, 3) := by decide +kernel
theorem dX4_init_4 : decode cX4_init 4 = .ok (.aload_n 0, 1) := by decide +kernel
theorem dX4_init_5 : decode cX4_init 5 = .ok (.new 9, 3) := by decide +kernel
theorem dX4_init_8 : decode cX4_init 8 = .ok (.dup, 1) := by decide +kernel
theorem dX4_init_9 : decode cX4_init 9 = .ok (.invokespecial 11, 3) := by decide +kernel
theorem dX4_init_12 : decode cX4_init 12 = .ok (.putfield 12, 3) := by decide +kernel
theorem dX4_init_15 : decode cX4_init 15 = .ok (.aload_n 0, 1) := by decide +kernel
theorem dX4_init_16 : decode cX4_init 16 = .ok (.new 18, 3) := by decide +kernel
theorem dX4_init_19 : decode cX4_init 19 = .ok (.dup, 1) := by decide +kernel
theorem dX4_init_20 : decode cX4_init 20 = .ok (.sipush 300, 3) := by decide +kernel
theorem dX4_init_23 : decode cX4_init 23 = .ok (.iconst 0, 1) := by decide +kernel
theorem dX4_init_24 : decode cX4_init 24 = .ok (.invokespecial 20, 3) := by decide +kernel
theorem dX4_init_27 : decode cX4_init 27 = .ok (.putfield 23, 3) := by decide +kernel
theorem dX4_init_30 : decode cX4_init 30 = .ok (.return_, 1) := by decide +kernel
theorem dX4_isFull_0 : decode cX4_isFull 0 = .ok (.aload_n 0, 1) := by decide +kernel
theorem dX4_isFull_1 : decode cX4_isFull 1 = .ok (.getfield 12, 3) := by decide +kernel
theorem dX4_isFull_4 : decode cX4_isFull 4 = .ok (.invokevirtual 27, 3) := by decide +kernel
theorem dX4_isFull_7 : decode cX4_isFull 7 = .ok (.ireturn, 1) := by decide +kernel
theorem dX4_carry_0 : decode cX4_carry 0 = .ok (.aload_n 0, 1) := by decide +kernel
theorem dX4_carry_1 : decode cX4_carry 1 = .ok (.getfield 12, 3) := by decide +kernel
theorem dX4_carry_4 : decode cX4_carry 4 = .ok (.getfield 31, 3) := by decide +kernel
theorem dX4_carry_7 : decode cX4_carry 7 = .ok (.iconst 5, 1) := by decide +kernel
theorem dX4_carry_8 : decode cX4_carry 8 = .ok (.imul, 1) := by decide +kernel
theorem dX4_carry_9 : decode cX4_carry 9 = .ok (.istore 6, 2) := by decide +kernel
theorem dX4_carry_11 : decode cX4_carry 11 = .ok (.iconst 0, 1) := by decide +kernel
theorem dX4_carry_12 : decode cX4_carry 12 = .ok (.istore 7, 2) := by decide +kernel
theorem dX4_carry_14 : decode cX4_carry 14 = .ok (.iload 7, 2) := by decide +kernel
theorem dX4_carry_16 : decode cX4_carry 16 = .ok (.iconst 5, 1) := by decide +kernel
theorem dX4_carry_17 : decode cX4_carry 17 = .ok (.if_icmp .ge 60, 3) := by decide +kernel
theorem dX4_carry_20 : decode cX4_carry 20 = .ok (.iload 7, 2) := by decide +kernel
theorem dX4_carry_22 : decode cX4_carry 22 = .ok (.iload_n 2, 1) := by decide +kernel
theorem dX4_carry_23 : decode cX4_carry 23 = .ok (.if_icmp .eq 9, 3) := by decide +kernel
theorem dX4_carry_26 : decode cX4_carry 26 = .ok (.iload 7, 2) := by decide +kernel
theorem dX4_carry_28 : decode cX4_carry 28 = .ok (.iload_n 3, 1) := by decide +kernel
theorem dX4_carry_29 : decode cX4_carry 29 = .ok (.if_icmp .ne 7, 3) := by decide +kernel
theorem dX4_carry_32 : decode cX4_carry 32 = .ok (.iconst 1, 1) := by decide +kernel
theorem dX4_carry_33 : decode cX4_carry 33 = .ok (.goto 4, 3) := by decide +kernel
theorem dX4_carry_36 : decode cX4_carry 36 = .ok (.iconst 0, 1) := by decide +kernel
theorem dX4_carry_37 : decode cX4_carry 37 = .ok (.istore 8, 2) := by decide +kernel
theorem dX4_carry_39 : decode cX4_carry 39 = .ok (.aload_n 0, 1) := by decide +kernel
theorem dX4_carry_40 : decode cX4_carry 40 = .ok (.getfield 23, 3) := by decide +kernel
theorem dX4_carry_43 : decode cX4_carry 43 = .ok (.iload 6, 2) := by decide +kernel
theorem dX4_carry_45 : decode cX4_carry 45 = .ok (.iload 7, 2) := by decide +kernel
theorem dX4_carry_47 : decode cX4_carry 47 = .ok (.iadd, 1) := by decide +kernel
theorem dX4_carry_48 : decode cX4_carry 48 = .ok (.iload 8, 2) := by decide +kernel
theorem dX4_carry_50 : decode cX4_carry 50 = .ok (.ifCond .eq 8, 3) := by decide +kernel
theorem dX4_carry_53 : decode cX4_carry 53 = .ok (.iload 4, 2) := by decide +kernel
theorem dX4_carry_55 : decode cX4_carry 55 = .ok (.goto 13, 3) := by decide +kernel
theorem dX4_carry_58 : decode cX4_carry 58 = .ok (.iload 4, 2) := by decide +kernel
theorem dX4_carry_60 : decode cX4_carry 60 = .ok (.aload 5, 2) := by decide +kernel
theorem dX4_carry_62 : decode cX4_carry 62 = .ok (.iload 7, 2) := by decide +kernel
theorem dX4_carry_64 : decode cX4_carry 64 = .ok (.invokevirtual 35, 3) := by decide +kernel
theorem dX4_carry_67 : decode cX4_carry 67 = .ok (.iadd, 1) := by decide +kernel
theorem dX4_carry_68 : decode cX4_carry 68 = .ok (.invokevirtual 39, 3) := by decide +kernel
theorem dX4_carry_71 : decode cX4_carry 71 = .ok (.iinc 7 1, 3) := by decide +kernel
theorem dX4_carry_74 : decode cX4_carry 74 = .ok (.goto (-60), 3) := by decide +kernel
theorem dX4_carry_77 : decode cX4_carry 77 = .ok (.aload_n 0, 1) := by decide +kernel
theorem dX4_carry_78 : decode cX4_carry 78 = .ok (.getfield 12, 3) := by decide +kernel
theorem dX4_carry_81 : decode cX4_carry 81 = .ok (.iload_n 1, 1) := by decide +kernel
theorem dX4_carry_82 : decode cX4_carry 82 = .ok (.iload 4, 2) := by decide +kernel
theorem dX4_carry_84 : decode cX4_carry 84 = .ok (.iload_n 3, 1) := by decide +kernel
theorem dX4_carry_85 : decode cX4_carry 85 = .ok (.invokevirtual 42, 3) := by decide +kernel
theorem dX4_carry_88 : decode cX4_carry 88 = .ok (.return_, 1) := by decide +kernel
theorem dX4_placeAt_0 : decode cX4_placeAt 0 = .ok (.aload_n 0, 1) := by decide +kernel
theorem dX4_placeAt_1 : decode cX4_placeAt 1 = .ok (.getfield 12, 3) := by decide +kernel
theorem dX4_placeAt_4 : decode cX4_placeAt 4 = .ok (.iload_n 1, 1) := by decide +kernel
theorem dX4_placeAt_5 : decode cX4_placeAt 5 = .ok (.iload_n 2, 1) := by decide +kernel
theorem dX4_placeAt_6 : decode cX4_placeAt 6 = .ok (.iload_n 1, 1) := by decide +kernel
theorem dX4_placeAt_7 : decode cX4_placeAt 7 = .ok (.iconst 5, 1) := by decide +kernel
theorem dX4_placeAt_8 : decode cX4_placeAt 8 = .ok (.irem, 1) := by decide +kernel
theorem dX4_placeAt_9 : decode cX4_placeAt 9 = .ok (.invokevirtual 46, 3) := by decide +kernel
theorem dX4_placeAt_12 : decode cX4_placeAt 12 = .ok (.ireturn, 1) := by decide +kernel
theorem dX4_placeKnownTo_0 : decode cX4_placeKnownTo 0 = .ok (.aload_n 0, 1) := by decide +kernel
theorem dX4_placeKnownTo_1 : decode cX4_placeKnownTo 1 = .ok (.getfield 12, 3) := by decide +kernel
theorem dX4_placeKnownTo_4 : decode cX4_placeKnownTo 4 = .ok (.getfield 31, 3) := by decide +kernel
theorem dX4_placeKnownTo_7 : decode cX4_placeKnownTo 7 = .ok (.iconst 1, 1) := by decide +kernel
theorem dX4_placeKnownTo_8 : decode cX4_placeKnownTo 8 = .ok (.isub, 1) := by decide +kernel
theorem dX4_placeKnownTo_9 : decode cX4_placeKnownTo 9 = .ok (.istore 4, 2) := by decide +kernel
theorem dX4_placeKnownTo_11 : decode cX4_placeKnownTo 11 = .ok (.iload 4, 2) := by decide +kernel
theorem dX4_placeKnownTo_13 : decode cX4_placeKnownTo 13 = .ok (.ifCond .lt 67, 3) := by decide +kernel
theorem dX4_placeKnownTo_16 : decode cX4_placeKnownTo 16 = .ok (.aload_n 0, 1) := by decide +kernel
theorem dX4_placeKnownTo_17 : decode cX4_placeKnownTo 17 = .ok (.getfield 23, 3) := by decide +kernel
theorem dX4_placeKnownTo_20 : decode cX4_placeKnownTo 20 = .ok (.iload 4, 2) := by decide +kernel
theorem dX4_placeKnownTo_22 : decode cX4_placeKnownTo 22 = .ok (.iconst 5, 1) := by decide +kernel
theorem dX4_placeKnownTo_23 : decode cX4_placeKnownTo 23 = .ok (.imul, 1) := by decide +kernel
theorem dX4_placeKnownTo_24 : decode cX4_placeKnownTo 24 = .ok (.iload_n 1, 1) := by decide +kernel
theorem dX4_placeKnownTo_25 : decode cX4_placeKnownTo 25 = .ok (.iadd, 1) := by decide +kernel
theorem dX4_placeKnownTo_26 : decode cX4_placeKnownTo 26 = .ok (.invokevirtual 35, 3) := by decide +kernel
theorem dX4_placeKnownTo_29 : decode cX4_placeKnownTo 29 = .ok (.iload_n 3, 1) := by decide +kernel
theorem dX4_placeKnownTo_30 : decode cX4_placeKnownTo 30 = .ok (.if_icmp .gt 7, 3) := by decide +kernel
theorem dX4_placeKnownTo_33 : decode cX4_placeKnownTo 33 = .ok (.iconst 1, 1) := by decide +kernel
theorem dX4_placeKnownTo_34 : decode cX4_placeKnownTo 34 = .ok (.goto 4, 3) := by decide +kernel
theorem dX4_placeKnownTo_37 : decode cX4_placeKnownTo 37 = .ok (.iconst 0, 1) := by decide +kernel
theorem dX4_placeKnownTo_38 : decode cX4_placeKnownTo 38 = .ok (.istore 5, 2) := by decide +kernel
theorem dX4_placeKnownTo_40 : decode cX4_placeKnownTo 40 = .ok (.iload 5, 2) := by decide +kernel
theorem dX4_placeKnownTo_42 : decode cX4_placeKnownTo 42 = .ok (.ifCond .eq 32, 3) := by decide +kernel
theorem dX4_placeKnownTo_45 : decode cX4_placeKnownTo 45 = .ok (.aload_n 0, 1) := by decide +kernel
theorem dX4_placeKnownTo_46 : decode cX4_placeKnownTo 46 = .ok (.getfield 12, 3) := by decide +kernel
theorem dX4_placeKnownTo_49 : decode cX4_placeKnownTo 49 = .ok (.getfield 50, 3) := by decide +kernel
theorem dX4_placeKnownTo_52 : decode cX4_placeKnownTo 52 = .ok (.iload 4, 2) := by decide +kernel
theorem dX4_placeKnownTo_54 : decode cX4_placeKnownTo 54 = .ok (.invokevirtual 35, 3) := by decide +kernel
theorem dX4_placeKnownTo_57 : decode cX4_placeKnownTo 57 = .ok (.iload_n 2, 1) := by decide +kernel
theorem dX4_placeKnownTo_58 : decode cX4_placeKnownTo 58 = .ok (.if_icmp .ne 16, 3) := by decide +kernel
theorem dX4_placeKnownTo_61 : decode cX4_placeKnownTo 61 = .ok (.aload_n 0, 1) := by decide +kernel
theorem dX4_placeKnownTo_62 : decode cX4_placeKnownTo 62 = .ok (.getfield 12, 3) := by decide +kernel
theorem dX4_placeKnownTo_65 : decode cX4_placeKnownTo 65 = .ok (.getfield 53, 3) := by decide +kernel
theorem dX4_placeKnownTo_68 : decode cX4_placeKnownTo 68 = .ok (.iload 4, 2) := by decide +kernel
theorem dX4_placeKnownTo_70 : decode cX4_placeKnownTo 70 = .ok (.invokevirtual 35, 3) := by decide +kernel
theorem dX4_placeKnownTo_73 : decode cX4_placeKnownTo 73 = .ok (.ireturn, 1) := by decide +kernel
theorem dX4_placeKnownTo_74 : decode cX4_placeKnownTo 74 = .ok (.iinc 4 (-1), 3) := by decide +kernel
theorem dX4_placeKnownTo_77 : decode cX4_placeKnownTo 77 = .ok (.goto (-66), 3) := by decide +kernel
theorem dX4_placeKnownTo_80 : decode cX4_placeKnownTo 80 = .ok (.iload_n 2, 1) := by decide +kernel
theorem dX4_placeKnownTo_81 : decode cX4_placeKnownTo 81 = .ok (.iconst 5, 1) := by decide +kernel
theorem dX4_placeKnownTo_82 : decode cX4_placeKnownTo 82 = .ok (.irem, 1) := by decide +kernel
theorem dX4_placeKnownTo_83 : decode cX4_placeKnownTo 83 = .ok (.ireturn, 1) := by decide +kernel
theorem dX5_init_0 : decode cX5_init 0 = .ok (.aload_n 0, 1) := by decide +kernel
theorem dX5_init_1 : decode cX5_init 1 = .ok (.invokespecial 1, 3) := by decide +kernel
theorem dX5_init_4 : decode cX5_init 4 = .ok (.aload_n 0, 1) := by decide +kernel
theorem dX5_init_5 : decode cX5_init 5 = .ok (.iload_n 1, 1) := by decide +kernel
theorem dX5_init_6 : decode cX5_init 6 = .ok (.iconst 0, 1) := by decide +kernel
theorem dX5_init_7 : decode cX5_init 7 = .ok (.invokestatic 7, 3) := by decide +kernel
theorem dX5_init_10 : decode cX5_init 10 = .ok (.newarray .int, 2) := by decide +kernel
theorem dX5_init_12 : decode cX5_init 12 = .ok (.putfield 13, 3) := by decide +kernel
theorem dX5_init_15 : decode cX5_init 15 = .ok (.iconst 0, 1) := by decide +kernel
theorem dX5_init_16 : decode cX5_init 16 = .ok (.istore_n 3, 1) := by decide +kernel
theorem dX5_init_17 : decode cX5_init 17 = .ok (.iload_n 3, 1) := by decide +kernel
theorem dX5_init_18 : decode cX5_init 18 = .ok (.aload_n 0, 1) := by decide +kernel
theorem dX5_init_19 : decode cX5_init 19 = .ok (.getfield 13, 3) := by decide +kernel
theorem dX5_init_22 : decode cX5_init 22 = .ok (.arraylength, 1) := by decide +kernel
theorem dX5_init_23 : decode cX5_init 23 = .ok (.if_icmp .ge 16, 3) := by decide +kernel
theorem dX5_init_26 : decode cX5_init 26 = .ok (.aload_n 0, 1) := by decide +kernel
theorem dX5_init_27 : decode cX5_init 27 = .ok (.getfield 13, 3) := by decide +kernel
theorem dX5_init_30 : decode cX5_init 30 = .ok (.iload_n 3, 1) := by decide +kernel
theorem dX5_init_31 : decode cX5_init 31 = .ok (.iload_n 2, 1) := by decide +kernel
theorem dX5_init_32 : decode cX5_init 32 = .ok (.iastore, 1) := by decide +kernel
theorem dX5_init_33 : decode cX5_init 33 = .ok (.iinc 3 1, 3) := by decide +kernel
theorem dX5_init_36 : decode cX5_init 36 = .ok (.goto (-19), 3) := by decide +kernel
theorem dX5_init_39 : decode cX5_init 39 = .ok (.return_, 1) := by decide +kernel
theorem dX5_get_0 : decode cX5_get 0 = .ok (.iload_n 1, 1) := by decide +kernel
theorem dX5_get_1 : decode cX5_get 1 = .ok (.ifCond .lt 21, 3) := by decide +kernel
theorem dX5_get_4 : decode cX5_get 4 = .ok (.iload_n 1, 1) := by decide +kernel
theorem dX5_get_5 : decode cX5_get 5 = .ok (.aload_n 0, 1) := by decide +kernel
theorem dX5_get_6 : decode cX5_get 6 = .ok (.getfield 13, 3) := by decide +kernel
theorem dX5_get_9 : decode cX5_get 9 = .ok (.arraylength, 1) := by decide +kernel
theorem dX5_get_10 : decode cX5_get 10 = .ok (.if_icmp .ge 12, 3) := by decide +kernel
theorem dX5_get_13 : decode cX5_get 13 = .ok (.aload_n 0, 1) := by decide +kernel
theorem dX5_get_14 : decode cX5_get 14 = .ok (.getfield 13, 3) := by decide +kernel
theorem dX5_get_17 : decode cX5_get 17 = .ok (.iload_n 1, 1) := by decide +kernel
theorem dX5_get_18 : decode cX5_get 18 = .ok (.iaload, 1) := by decide +kernel
theorem dX5_get_19 : decode cX5_get 19 = .ok (.goto 4, 3) := by decide +kernel
theorem dX5_get_22 : decode cX5_get 22 = .ok (.iconst 0, 1) := by decide +kernel
theorem dX5_get_23 : decode cX5_get 23 = .ok (.ireturn, 1) := by decide +kernel
theorem dX5_set_0 : decode cX5_set 0 = .ok (.iload_n 1, 1) := by decide +kernel
theorem dX5_set_1 : decode cX5_set 1 = .ok (.ifCond .lt 19, 3) := by decide +kernel
theorem dX5_set_4 : decode cX5_set 4 = .ok (.iload_n 1, 1) := by decide +kernel
theorem dX5_set_5 : decode cX5_set 5 = .ok (.aload_n 0, 1) := by decide +kernel
theorem dX5_set_6 : decode cX5_set 6 = .ok (.getfield 13, 3) := by decide +kernel
theorem dX5_set_9 : decode cX5_set 9 = .ok (.arraylength, 1) := by decide +kernel
theorem dX5_set_10 : decode cX5_set 10 = .ok (.if_icmp .ge 10, 3) := by decide +kernel
theorem dX5_set_13 : decode cX5_set 13 = .ok (.aload_n 0, 1) := by decide +kernel
theorem dX5_set_14 : decode cX5_set 14 = .ok (.getfield 13, 3) := by decide +kernel
theorem dX5_set_17 : decode cX5_set 17 = .ok (.iload_n 1, 1) := by decide +kernel
theorem dX5_set_18 : decode cX5_set 18 = .ok (.iload_n 2, 1) := by decide +kernel
theorem dX5_set_19 : decode cX5_set 19 = .ok (.iastore, 1) := by decide +kernel
theorem dX5_set_20 : decode cX5_set 20 = .ok (.return_, 1) := by decide +kernel
theorem dX5_add_0 : decode cX5_add 0 = .ok (.iload_n 1, 1) := by decide +kernel
theorem dX5_add_1 : decode cX5_add 1 = .ok (.ifCond .lt 22, 3) := by decide +kernel
theorem dX5_add_4 : decode cX5_add 4 = .ok (.iload_n 1, 1) := by decide +kernel
theorem dX5_add_5 : decode cX5_add 5 = .ok (.aload_n 0, 1) := by decide +kernel
theorem dX5_add_6 : decode cX5_add 6 = .ok (.getfield 13, 3) := by decide +kernel
theorem dX5_add_9 : decode cX5_add 9 = .ok (.arraylength, 1) := by decide +kernel
theorem dX5_add_10 : decode cX5_add 10 = .ok (.if_icmp .ge 13, 3) := by decide +kernel
theorem dX5_add_13 : decode cX5_add 13 = .ok (.aload_n 0, 1) := by decide +kernel
theorem dX5_add_14 : decode cX5_add 14 = .ok (.getfield 13, 3) := by decide +kernel
theorem dX5_add_17 : decode cX5_add 17 = .ok (.iload_n 1, 1) := by decide +kernel
theorem dX5_add_18 : decode cX5_add 18 = .ok (.dup2, 1) := by decide +kernel
theorem dX5_add_19 : decode cX5_add 19 = .ok (.iaload, 1) := by decide +kernel
theorem dX5_add_20 : decode cX5_add 20 = .ok (.iload_n 2, 1) := by decide +kernel
theorem dX5_add_21 : decode cX5_add 21 = .ok (.iadd, 1) := by decide +kernel
theorem dX5_add_22 : decode cX5_add 22 = .ok (.iastore, 1) := by decide +kernel
theorem dX5_add_23 : decode cX5_add 23 = .ok (.return_, 1) := by decide +kernel
theorem dX6_init_0 : decode cX6_init 0 = .ok (.aload_n 0, 1) := by decide +kernel
theorem dX6_init_1 : decode cX6_init 1 = .ok (.invokespecial 3, 3) := by decide +kernel
theorem dX6_init_4 : decode cX6_init 4 = .ok (.aload_n 0, 1) := by decide +kernel
theorem dX6_init_5 : decode cX6_init 5 = .ok (.new 9, 3) := by decide +kernel
theorem dX6_init_8 : decode cX6_init 8 = .ok (.dup, 1) := by decide +kernel
theorem dX6_init_9 : decode cX6_init 9 = .ok (.invokespecial 11, 3) := by decide +kernel
theorem dX6_init_12 : decode cX6_init 12 = .ok (.putfield 12, 3) := by decide +kernel
theorem dX6_init_15 : decode cX6_init 15 = .ok (.aload_n 0, 1) := by decide +kernel
theorem dX6_init_16 : decode cX6_init 16 = .ok (.new 9, 3) := by decide +kernel
theorem dX6_init_19 : decode cX6_init 19 = .ok (.dup, 1) := by decide +kernel
theorem dX6_init_20 : decode cX6_init 20 = .ok (.invokespecial 11, 3) := by decide +kernel
theorem dX6_init_23 : decode cX6_init 23 = .ok (.putfield 18, 3) := by decide +kernel
theorem dX6_init_26 : decode cX6_init 26 = .ok (.return_, 1) := by decide +kernel
theorem dX6_isFull_0 : decode cX6_isFull 0 = .ok (.aload_n 0, 1) := by decide +kernel
theorem dX6_isFull_1 : decode cX6_isFull 1 = .ok (.getfield 12, 3) := by decide +kernel
theorem dX6_isFull_4 : decode cX6_isFull 4 = .ok (.invokevirtual 21, 3) := by decide +kernel
theorem dX6_isFull_7 : decode cX6_isFull 7 = .ok (.ireturn, 1) := by decide +kernel
theorem dX6_change_0 : decode cX6_change 0 = .ok (.aload_n 0, 1) := by decide +kernel
theorem dX6_change_1 : decode cX6_change 1 = .ok (.getfield 12, 3) := by decide +kernel
theorem dX6_change_4 : decode cX6_change 4 = .ok (.iload_n 1, 1) := by decide +kernel
theorem dX6_change_5 : decode cX6_change 5 = .ok (.iload_n 2, 1) := by decide +kernel
theorem dX6_change_6 : decode cX6_change 6 = .ok (.iload_n 3, 1) := by decide +kernel
theorem dX6_change_7 : decode cX6_change 7 = .ok (.invokevirtual 25, 3) := by decide +kernel
theorem dX6_change_10 : decode cX6_change 10 = .ok (.aload_n 0, 1) := by decide +kernel
theorem dX6_change_11 : decode cX6_change 11 = .ok (.getfield 18, 3) := by decide +kernel
theorem dX6_change_14 : decode cX6_change 14 = .ok (.iload_n 1, 1) := by decide +kernel
theorem dX6_change_15 : decode cX6_change 15 = .ok (.iload_n 2, 1) := by decide +kernel
theorem dX6_change_16 : decode cX6_change 16 = .ok (.iload 4, 2) := by decide +kernel
theorem dX6_change_18 : decode cX6_change 18 = .ok (.invokevirtual 25, 3) := by decide +kernel
theorem dX6_change_21 : decode cX6_change 21 = .ok (.return_, 1) := by decide +kernel
theorem dX6_dearAt_0 : decode cX6_dearAt 0 = .ok (.aload_n 0, 1) := by decide +kernel
theorem dX6_dearAt_1 : decode cX6_dearAt 1 = .ok (.getfield 12, 3) := by decide +kernel
theorem dX6_dearAt_4 : decode cX6_dearAt 4 = .ok (.iload_n 1, 1) := by decide +kernel
theorem dX6_dearAt_5 : decode cX6_dearAt 5 = .ok (.iload_n 2, 1) := by decide +kernel
theorem dX6_dearAt_6 : decode cX6_dearAt 6 = .ok (.iconst 2, 1) := by decide +kernel
theorem dX6_dearAt_7 : decode cX6_dearAt 7 = .ok (.invokevirtual 29, 3) := by decide +kernel
theorem dX6_dearAt_10 : decode cX6_dearAt 10 = .ok (.ireturn, 1) := by decide +kernel
theorem dX6_nextAfter_0 : decode cX6_nextAfter 0 = .ok (.aload_n 0, 1) := by decide +kernel
theorem dX6_nextAfter_1 : decode cX6_nextAfter 1 = .ok (.getfield 12, 3) := by decide +kernel
theorem dX6_nextAfter_4 : decode cX6_nextAfter 4 = .ok (.iload_n 1, 1) := by decide +kernel
theorem dX6_nextAfter_5 : decode cX6_nextAfter 5 = .ok (.iload_n 2, 1) := by decide +kernel
theorem dX6_nextAfter_6 : decode cX6_nextAfter 6 = .ok (.iload_n 3, 1) := by decide +kernel
theorem dX6_nextAfter_7 : decode cX6_nextAfter 7 = .ok (.invokevirtual 33, 3) := by decide +kernel
theorem dX6_nextAfter_10 : decode cX6_nextAfter 10 = .ok (.ireturn, 1) := by decide +kernel
theorem dX6_charge_0 : decode cX6_charge 0 = .ok (.iload_n 3, 1) := by decide +kernel
theorem dX6_charge_1 : decode cX6_charge 1 = .ok (.invokestatic 36, 3) := by decide +kernel
theorem dX6_charge_4 : decode cX6_charge 4 = .ok (.iload_n 2, 1) := by decide +kernel
theorem dX6_charge_5 : decode cX6_charge 5 = .ok (.invokestatic 36, 3) := by decide +kernel
theorem dX6_charge_8 : decode cX6_charge 8 = .ok (.isub, 1) := by decide +kernel
theorem dX6_charge_9 : decode cX6_charge 9 = .ok (.istore 4, 2) := by decide +kernel
theorem dX6_charge_11 : decode cX6_charge 11 = .ok (.iload_n 3, 1) := by decide +kernel
theorem dX6_charge_12 : decode cX6_charge 12 = .ok (.iload_n 2, 1) := by decide +kernel
theorem dX6_charge_13 : decode cX6_charge 13 = .ok (.isub, 1) := by decide +kernel
theorem dX6_charge_14 : decode cX6_charge 14 = .ok (.iload 4, 2) := by decide +kernel
theorem dX6_charge_16 : decode cX6_charge 16 = .ok (.isub, 1) := by decide +kernel
theorem dX6_charge_17 : decode cX6_charge 17 = .ok (.istore 5, 2) := by decide +kernel
theorem dX6_charge_19 : decode cX6_charge 19 = .ok (.aload_n 0, 1) := by decide +kernel
theorem dX6_charge_20 : decode cX6_charge 20 = .ok (.getfield 18, 3) := by decide +kernel
theorem dX6_charge_23 : decode cX6_charge 23 = .ok (.iload_n 1, 1) := by decide +kernel
theorem dX6_charge_24 : decode cX6_charge 24 = .ok (.iload_n 2, 1) := by decide +kernel
theorem dX6_charge_25 : decode cX6_charge 25 = .ok (.iconst 1, 1) := by decide +kernel
theorem dX6_charge_26 : decode cX6_charge 26 = .ok (.invokevirtual 29, 3) := by decide +kernel
theorem dX6_charge_29 : decode cX6_charge 29 = .ok (.istore 6, 2) := by decide +kernel
theorem dX6_charge_31 : decode cX6_charge 31 = .ok (.iload 4, 2) := by decide +kernel
theorem dX6_charge_33 : decode cX6_charge 33 = .ok (.aload_n 0, 1) := by decide +kernel
theorem dX6_charge_34 : decode cX6_charge 34 = .ok (.iload_n 1, 1) := by decide +kernel
theorem dX6_charge_35 : decode cX6_charge 35 = .ok (.iload_n 2, 1) := by decide +kernel
theorem dX6_charge_36 : decode cX6_charge 36 = .ok (.invokevirtual 40, 3) := by decide +kernel
theorem dX6_charge_39 : decode cX6_charge 39 = .ok (.imul, 1) := by decide +kernel
theorem dX6_charge_40 : decode cX6_charge 40 = .ok (.iload 5, 2) := by decide +kernel
theorem dX6_charge_42 : decode cX6_charge 42 = .ok (.iload 6, 2) := by decide +kernel
theorem dX6_charge_44 : decode cX6_charge 44 = .ok (.imul, 1) := by decide +kernel
theorem dX6_charge_45 : decode cX6_charge 45 = .ok (.iadd, 1) := by decide +kernel
theorem dX6_charge_46 : decode cX6_charge 46 = .ok (.ireturn, 1) := by decide +kernel
theorem dX6_dearBefore_0 : decode cX6_dearBefore 0 = .ok (.iload_n 0, 1) := by decide +kernel
theorem dX6_dearBefore_1 : decode cX6_dearBefore 1 = .ok (.sipush 1440, 3) := by decide +kernel
theorem dX6_dearBefore_4 : decode cX6_dearBefore 4 = .ok (.irem, 1) := by decide +kernel
theorem dX6_dearBefore_5 : decode cX6_dearBefore 5 = .ok (.sipush 480, 3) := by decide +kernel
theorem dX6_dearBefore_8 : decode cX6_dearBefore 8 = .ok (.isub, 1) := by decide +kernel
theorem dX6_dearBefore_9 : decode cX6_dearBefore 9 = .ok (.iconst 0, 1) := by decide +kernel
theorem dX6_dearBefore_10 : decode cX6_dearBefore 10 = .ok (.invokestatic 44, 3) := by decide +kernel
theorem dX6_dearBefore_13 : decode cX6_dearBefore 13 = .ok (.istore_n 1, 1) := by decide +kernel
theorem dX6_dearBefore_14 : decode cX6_dearBefore 14 = .ok (.iload_n 0, 1) := by decide +kernel
theorem dX6_dearBefore_15 : decode cX6_dearBefore 15 = .ok (.sipush 1440, 3) := by decide +kernel
theorem dX6_dearBefore_18 : decode cX6_dearBefore 18 = .ok (.idiv, 1) := by decide +kernel
theorem dX6_dearBefore_19 : decode cX6_dearBefore 19 = .ok (.sipush 720, 3) := by decide +kernel
theorem dX6_dearBefore_22 : decode cX6_dearBefore 22 = .ok (.imul, 1) := by decide +kernel
theorem dX6_dearBefore_23 : decode cX6_dearBefore 23 = .ok (.iload_n 1, 1) := by decide +kernel
theorem dX6_dearBefore_24 : decode cX6_dearBefore 24 = .ok (.sipush 720, 3) := by decide +kernel
theorem dX6_dearBefore_27 : decode cX6_dearBefore 27 = .ok (.invokestatic 49, 3) := by decide +kernel
theorem dX6_dearBefore_30 : decode cX6_dearBefore 30 = .ok (.iadd, 1) := by decide +kernel
theorem dX6_dearBefore_31 : decode cX6_dearBefore 31 = .ok (.ireturn, 1) := by decide +kernel
theorem dX7_init_0 : decode cX7_init 0 = .ok (.aload_n 0, 1) := by decide +kernel
theorem dX7_init_1 : decode cX7_init 1 = .ok (.invokespecial 3, 3) := by decide +kernel
theorem dX7_init_4 : decode cX7_init 4 = .ok (.aload_n 0, 1) := by decide +kernel
theorem dX7_init_5 : decode cX7_init 5 = .ok (.new 9, 3) := by decide +kernel
theorem dX7_init_8 : decode cX7_init 8 = .ok (.dup, 1) := by decide +kernel
theorem dX7_init_9 : decode cX7_init 9 = .ok (.bipush 25, 2) := by decide +kernel
theorem dX7_init_11 : decode cX7_init 11 = .ok (.iconst 2, 1) := by decide +kernel
theorem dX7_init_12 : decode cX7_init 12 = .ok (.invokespecial 11, 3) := by decide +kernel
theorem dX7_init_15 : decode cX7_init 15 = .ok (.putfield 14, 3) := by decide +kernel
theorem dX7_init_18 : decode cX7_init 18 = .ok (.aload_n 0, 1) := by decide +kernel
theorem dX7_init_19 : decode cX7_init 19 = .ok (.new 9, 3) := by decide +kernel
theorem dX7_init_22 : decode cX7_init 22 = .ok (.dup, 1) := by decide +kernel
theorem dX7_init_23 : decode cX7_init 23 = .ok (.bipush 25, 2) := by decide +kernel
theorem dX7_init_25 : decode cX7_init 25 = .ok (.iconst 0, 1) := by decide +kernel
theorem dX7_init_26 : decode cX7_init 26 = .ok (.invokespecial 11, 3) := by decide +kernel
theorem dX7_init_29 : decode cX7_init 29 = .ok (.putfield 20, 3) := by decide +kernel
theorem dX7_init_32 : decode cX7_init 32 = .ok (.return_, 1) := by decide +kernel
theorem dX7_between_0 : decode cX7_between 0 = .ok (.iload_n 0, 1) := by decide +kernel
theorem dX7_between_1 : decode cX7_between 1 = .ok (.iload_n 1, 1) := by decide +kernel
theorem dX7_between_2 : decode cX7_between 2 = .ok (.invokestatic 23, 3) := by decide +kernel
theorem dX7_between_5 : decode cX7_between 5 = .ok (.iconst 5, 1) := by decide +kernel
theorem dX7_between_6 : decode cX7_between 6 = .ok (.imul, 1) := by decide +kernel
theorem dX7_between_7 : decode cX7_between 7 = .ok (.iload_n 0, 1) := by decide +kernel
theorem dX7_between_8 : decode cX7_between 8 = .ok (.iload_n 1, 1) := by decide +kernel
theorem dX7_between_9 : decode cX7_between 9 = .ok (.invokestatic 29, 3) := by decide +kernel
theorem dX7_between_12 : decode cX7_between 12 = .ok (.iadd, 1) := by decide +kernel
theorem dX7_between_13 : decode cX7_between 13 = .ok (.ireturn, 1) := by decide +kernel
theorem dX7_change_0 : decode cX7_change 0 = .ok (.aload_n 0, 1) := by decide +kernel
theorem dX7_change_1 : decode cX7_change 1 = .ok (.getfield 14, 3) := by decide +kernel
theorem dX7_change_4 : decode cX7_change 4 = .ok (.iload_n 1, 1) := by decide +kernel
theorem dX7_change_5 : decode cX7_change 5 = .ok (.iload_n 2, 1) := by decide +kernel
theorem dX7_change_6 : decode cX7_change 6 = .ok (.invokestatic 32, 3) := by decide +kernel
theorem dX7_change_9 : decode cX7_change 9 = .ok (.iload_n 3, 1) := by decide +kernel
theorem dX7_change_10 : decode cX7_change 10 = .ok (.invokevirtual 35, 3) := by decide +kernel
theorem dX7_change_13 : decode cX7_change 13 = .ok (.return_, 1) := by decide +kernel
theorem dX7_take_0 : decode cX7_take 0 = .ok (.aload_n 0, 1) := by decide +kernel
theorem dX7_take_1 : decode cX7_take 1 = .ok (.getfield 20, 3) := by decide +kernel
theorem dX7_take_4 : decode cX7_take 4 = .ok (.iload_n 1, 1) := by decide +kernel
theorem dX7_take_5 : decode cX7_take 5 = .ok (.iload_n 2, 1) := by decide +kernel
theorem dX7_take_6 : decode cX7_take 6 = .ok (.invokestatic 32, 3) := by decide +kernel
theorem dX7_take_9 : decode cX7_take 9 = .ok (.iload_n 3, 1) := by decide +kernel
theorem dX7_take_10 : decode cX7_take 10 = .ok (.invokevirtual 38, 3) := by decide +kernel
theorem dX7_take_13 : decode cX7_take 13 = .ok (.return_, 1) := by decide +kernel
theorem dX7_left_0 : decode cX7_left 0 = .ok (.iload_n 1, 1) := by decide +kernel
theorem dX7_left_1 : decode cX7_left 1 = .ok (.iload_n 2, 1) := by decide +kernel
theorem dX7_left_2 : decode cX7_left 2 = .ok (.invokestatic 32, 3) := by decide +kernel
theorem dX7_left_5 : decode cX7_left 5 = .ok (.istore_n 3, 1) := by decide +kernel
theorem dX7_left_6 : decode cX7_left 6 = .ok (.aload_n 0, 1) := by decide +kernel
theorem dX7_left_7 : decode cX7_left 7 = .ok (.getfield 14, 3) := by decide +kernel
theorem dX7_left_10 : decode cX7_left 10 = .ok (.iload_n 3, 1) := by decide +kernel
theorem dX7_left_11 : decode cX7_left 11 = .ok (.invokevirtual 41, 3) := by decide +kernel
theorem dX7_left_14 : decode cX7_left 14 = .ok (.aload_n 0, 1) := by decide +kernel
theorem dX7_left_15 : decode cX7_left 15 = .ok (.getfield 20, 3) := by decide +kernel
theorem dX7_left_18 : decode cX7_left 18 = .ok (.iload_n 3, 1) := by decide +kernel
theorem dX7_left_19 : decode cX7_left 19 = .ok (.invokevirtual 41, 3) := by decide +kernel
theorem dX7_left_22 : decode cX7_left 22 = .ok (.isub, 1) := by decide +kernel
theorem dX7_left_23 : decode cX7_left 23 = .ok (.ireturn, 1) := by decide +kernel
theorem dX8_init_0 : decode cX8_init 0 = .ok (.aload_n 0, 1) := by decide +kernel
theorem dX8_init_1 : decode cX8_init 1 = .ok (.invokespecial 3, 3) := by decide +kernel
theorem dX8_init_4 : decode cX8_init 4 = .ok (.aload_n 0, 1) := by decide +kernel
theorem dX8_init_5 : decode cX8_init 5 = .ok (.new 9, 3) := by decide +kernel
theorem dX8_init_8 : decode cX8_init 8 = .ok (.dup, 1) := by decide +kernel
theorem dX8_init_9 : decode cX8_init 9 = .ok (.iconst 5, 1) := by decide +kernel
theorem dX8_init_10 : decode cX8_init 10 = .ok (.iconst 0, 1) := by decide +kernel
theorem dX8_init_11 : decode cX8_init 11 = .ok (.invokespecial 11, 3) := by decide +kernel
theorem dX8_init_14 : decode cX8_init 14 = .ok (.putfield 14, 3) := by decide +kernel
theorem dX8_init_17 : decode cX8_init 17 = .ok (.aload_n 0, 1) := by decide +kernel
theorem dX8_init_18 : decode cX8_init 18 = .ok (.iconst 0, 1) := by decide +kernel
theorem dX8_init_19 : decode cX8_init 19 = .ok (.putfield 20, 3) := by decide +kernel
theorem dX8_init_22 : decode cX8_init 22 = .ok (.return_, 1) := by decide +kernel
theorem dX8_begin_0 : decode cX8_begin 0 = .ok (.aload_n 0, 1) := by decide +kernel
theorem dX8_begin_1 : decode cX8_begin 1 = .ok (.getfield 14, 3) := by decide +kernel
theorem dX8_begin_4 : decode cX8_begin 4 = .ok (.iconst 0, 1) := by decide +kernel
theorem dX8_begin_5 : decode cX8_begin 5 = .ok (.iload_n 1, 1) := by decide +kernel
theorem dX8_begin_6 : decode cX8_begin 6 = .ok (.invokevirtual 24, 3) := by decide +kernel
theorem dX8_begin_9 : decode cX8_begin 9 = .ok (.aload_n 0, 1) := by decide +kernel
theorem dX8_begin_10 : decode cX8_begin 10 = .ok (.iconst 1, 1) := by decide +kernel
theorem dX8_begin_11 : decode cX8_begin 11 = .ok (.putfield 20, 3) := by decide +kernel
theorem dX8_begin_14 : decode cX8_begin 14 = .ok (.return_, 1) := by decide +kernel
theorem dX8_goOn_0 : decode cX8_goOn 0 = .ok (.aload_n 0, 1) := by decide +kernel
theorem dX8_goOn_1 : decode cX8_goOn 1 = .ok (.getfield 14, 3) := by decide +kernel
theorem dX8_goOn_4 : decode cX8_goOn 4 = .ok (.aload_n 0, 1) := by decide +kernel
theorem dX8_goOn_5 : decode cX8_goOn 5 = .ok (.getfield 20, 3) := by decide +kernel
theorem dX8_goOn_8 : decode cX8_goOn 8 = .ok (.iload_n 1, 1) := by decide +kernel
theorem dX8_goOn_9 : decode cX8_goOn 9 = .ok (.invokevirtual 24, 3) := by decide +kernel
theorem dX8_goOn_12 : decode cX8_goOn 12 = .ok (.aload_n 0, 1) := by decide +kernel
theorem dX8_goOn_13 : decode cX8_goOn 13 = .ok (.dup, 1) := by decide +kernel
theorem dX8_goOn_14 : decode cX8_goOn 14 = .ok (.getfield 20, 3) := by decide +kernel
theorem dX8_goOn_17 : decode cX8_goOn 17 = .ok (.iconst 1, 1) := by decide +kernel
theorem dX8_goOn_18 : decode cX8_goOn 18 = .ok (.iadd, 1) := by decide +kernel
theorem dX8_goOn_19 : decode cX8_goOn 19 = .ok (.putfield 20, 3) := by decide +kernel
theorem dX8_goOn_22 : decode cX8_goOn 22 = .ok (.return_, 1) := by decide +kernel
theorem dX8_first_0 : decode cX8_first 0 = .ok (.aload_n 0, 1) := by decide +kernel
theorem dX8_first_1 : decode cX8_first 1 = .ok (.getfield 14, 3) := by decide +kernel
theorem dX8_first_4 : decode cX8_first 4 = .ok (.iconst 0, 1) := by decide +kernel
theorem dX8_first_5 : decode cX8_first 5 = .ok (.invokevirtual 27, 3) := by decide +kernel
theorem dX8_first_8 : decode cX8_first 8 = .ok (.ireturn, 1) := by decide +kernel
theorem dX8_last_0 : decode cX8_last 0 = .ok (.aload_n 0, 1) := by decide +kernel
theorem dX8_last_1 : decode cX8_last 1 = .ok (.getfield 14, 3) := by decide +kernel
theorem dX8_last_4 : decode cX8_last 4 = .ok (.aload_n 0, 1) := by decide +kernel
theorem dX8_last_5 : decode cX8_last 5 = .ok (.getfield 20, 3) := by decide +kernel
theorem dX8_last_8 : decode cX8_last 8 = .ok (.iconst 1, 1) := by decide +kernel
theorem dX8_last_9 : decode cX8_last 9 = .ok (.isub, 1) := by decide +kernel
theorem dX8_last_10 : decode cX8_last 10 = .ok (.invokevirtual 27, 3) := by decide +kernel
theorem dX8_last_13 : decode cX8_last 13 = .ok (.ireturn, 1) := by decide +kernel
theorem dX8_has_0 : decode cX8_has 0 = .ok (.iconst 0, 1) := by decide +kernel
theorem dX8_has_1 : decode cX8_has 1 = .ok (.istore_n 2, 1) := by decide +kernel
theorem dX8_has_2 : decode cX8_has 2 = .ok (.iload_n 2, 1) := by decide +kernel
theorem dX8_has_3 : decode cX8_has 3 = .ok (.aload_n 0, 1) := by decide +kernel
theorem dX8_has_4 : decode cX8_has 4 = .ok (.getfield 20, 3) := by decide +kernel
theorem dX8_has_7 : decode cX8_has 7 = .ok (.if_icmp .ge 23, 3) := by decide +kernel
theorem dX8_has_10 : decode cX8_has 10 = .ok (.aload_n 0, 1) := by decide +kernel
theorem dX8_has_11 : decode cX8_has 11 = .ok (.getfield 14, 3) := by decide +kernel
theorem dX8_has_14 : decode cX8_has 14 = .ok (.iload_n 2, 1) := by decide +kernel
theorem dX8_has_15 : decode cX8_has 15 = .ok (.invokevirtual 27, 3) := by decide +kernel
theorem dX8_has_18 : decode cX8_has 18 = .ok (.iload_n 1, 1) := by decide +kernel
theorem dX8_has_19 : decode cX8_has 19 = .ok (.if_icmp .ne 5, 3) := by decide +kernel
theorem dX8_has_22 : decode cX8_has 22 = .ok (.iconst 1, 1) := by decide +kernel
theorem dX8_has_23 : decode cX8_has 23 = .ok (.ireturn, 1) := by decide +kernel
theorem dX8_has_24 : decode cX8_has 24 = .ok (.iinc 2 1, 3) := by decide +kernel
theorem dX8_has_27 : decode cX8_has 27 = .ok (.goto (-25), 3) := by decide +kernel
theorem dX8_has_30 : decode cX8_has 30 = .ok (.iconst 0, 1) := by decide +kernel
theorem dX8_has_31 : decode cX8_has 31 = .ok (.ireturn, 1) := by decide +kernel
theorem dX9_init_0 : decode cX9_init 0 = .ok (.aload_n 0, 1) := by decide +kernel
theorem dX9_init_1 : decode cX9_init 1 = .ok (.invokespecial 3, 3) := by decide +kernel
theorem dX9_init_4 : decode cX9_init 4 = .ok (.aload_n 0, 1) := by decide +kernel
theorem dX9_init_5 : decode cX9_init 5 = .ok (.new 9, 3) := by decide +kernel
theorem dX9_init_8 : decode cX9_init 8 = .ok (.dup, 1) := by decide +kernel
theorem dX9_init_9 : decode cX9_init 9 = .ok (.invokespecial 11, 3) := by decide +kernel
theorem dX9_init_12 : decode cX9_init 12 = .ok (.putfield 12, 3) := by decide +kernel
theorem dX9_init_15 : decode cX9_init 15 = .ok (.aload_n 0, 1) := by decide +kernel
theorem dX9_init_16 : decode cX9_init 16 = .ok (.new 16, 3) := by decide +kernel
theorem dX9_init_19 : decode cX9_init 19 = .ok (.dup, 1) := by decide +kernel
theorem dX9_init_20 : decode cX9_init 20 = .ok (.invokespecial 18, 3) := by decide +kernel
theorem dX9_init_23 : decode cX9_init 23 = .ok (.putfield 19, 3) := by decide +kernel
theorem dX9_init_26 : decode cX9_init 26 = .ok (.aload_n 0, 1) := by decide +kernel
theorem dX9_init_27 : decode cX9_init 27 = .ok (.new 23, 3) := by decide +kernel
theorem dX9_init_30 : decode cX9_init 30 = .ok (.dup, 1) := by decide +kernel
theorem dX9_init_31 : decode cX9_init 31 = .ok (.bipush 6, 2) := by decide +kernel
theorem dX9_init_33 : decode cX9_init 33 = .ok (.iconst 0, 1) := by decide +kernel
theorem dX9_init_34 : decode cX9_init 34 = .ok (.invokespecial 25, 3) := by decide +kernel
theorem dX9_init_37 : decode cX9_init 37 = .ok (.putfield 28, 3) := by decide +kernel
theorem dX9_init_40 : decode cX9_init 40 = .ok (.aload_n 0, 1) := by decide +kernel
theorem dX9_init_41 : decode cX9_init 41 = .ok (.new 32, 3) := by decide +kernel
theorem dX9_init_44 : decode cX9_init 44 = .ok (.dup, 1) := by decide +kernel
theorem dX9_init_45 : decode cX9_init 45 = .ok (.invokespecial 34, 3) := by decide +kernel
theorem dX9_init_48 : decode cX9_init 48 = .ok (.putfield 35, 3) := by decide +kernel
theorem dX9_init_51 : decode cX9_init 51 = .ok (.aload_n 0, 1) := by decide +kernel
theorem dX9_init_52 : decode cX9_init 52 = .ok (.new 39, 3) := by decide +kernel
theorem dX9_init_55 : decode cX9_init 55 = .ok (.dup, 1) := by decide +kernel
theorem dX9_init_56 : decode cX9_init 56 = .ok (.invokespecial 41, 3) := by decide +kernel
theorem dX9_init_59 : decode cX9_init 59 = .ok (.putfield 42, 3) := by decide +kernel
theorem dX9_init_62 : decode cX9_init 62 = .ok (.aload_n 0, 1) := by decide +kernel
theorem dX9_init_63 : decode cX9_init 63 = .ok (.new 46, 3) := by decide +kernel
theorem dX9_init_66 : decode cX9_init 66 = .ok (.dup, 1) := by decide +kernel
theorem dX9_init_67 : decode cX9_init 67 = .ok (.invokespecial 48, 3) := by decide +kernel
theorem dX9_init_70 : decode cX9_init 70 = .ok (.putfield 49, 3) := by decide +kernel
theorem dX9_init_73 : decode cX9_init 73 = .ok (.aload_n 0, 1) := by decide +kernel
theorem dX9_init_74 : decode cX9_init 74 = .ok (.new 53, 3) := by decide +kernel
theorem dX9_init_77 : decode cX9_init 77 = .ok (.dup, 1) := by decide +kernel
theorem dX9_init_78 : decode cX9_init 78 = .ok (.invokespecial 55, 3) := by decide +kernel
theorem dX9_init_81 : decode cX9_init 81 = .ok (.putfield 56, 3) := by decide +kernel
theorem dX9_init_84 : decode cX9_init 84 = .ok (.aload_n 0, 1) := by decide +kernel
theorem dX9_init_85 : decode cX9_init 85 = .ok (.new 60, 3) := by decide +kernel
theorem dX9_init_88 : decode cX9_init 88 = .ok (.dup, 1) := by decide +kernel
theorem dX9_init_89 : decode cX9_init 89 = .ok (.invokespecial 62, 3) := by decide +kernel
theorem dX9_init_92 : decode cX9_init 92 = .ok (.putfield 63, 3) := by decide +kernel
theorem dX9_init_95 : decode cX9_init 95 = .ok (.aload_n 0, 1) := by decide +kernel
theorem dX9_init_96 : decode cX9_init 96 = .ok (.new 67, 3) := by decide +kernel
theorem dX9_init_99 : decode cX9_init 99 = .ok (.dup, 1) := by decide +kernel
theorem dX9_init_100 : decode cX9_init 100 = .ok (.invokespecial 69, 3) := by decide +kernel
theorem dX9_init_103 : decode cX9_init 103 = .ok (.putfield 70, 3) := by decide +kernel
theorem dX9_init_106 : decode cX9_init 106 = .ok (.aload_n 0, 1) := by decide +kernel
theorem dX9_init_107 : decode cX9_init 107 = .ok (.iconst 0, 1) := by decide +kernel
theorem dX9_init_108 : decode cX9_init 108 = .ok (.putfield 74, 3) := by decide +kernel
theorem dX9_init_111 : decode cX9_init 111 = .ok (.aload_n 0, 1) := by decide +kernel
theorem dX9_init_112 : decode cX9_init 112 = .ok (.iconst 0, 1) := by decide +kernel
theorem dX9_init_113 : decode cX9_init 113 = .ok (.putfield 78, 3) := by decide +kernel
theorem dX9_init_116 : decode cX9_init 116 = .ok (.return_, 1) := by decide +kernel
theorem dX9_setPrices_0 : decode cX9_setPrices 0 = .ok (.iload_n 1, 1) := by decide +kernel
theorem dX9_setPrices_1 : decode cX9_setPrices 1 = .ok (.invokestatic 81, 3) := by decide +kernel
theorem dX9_setPrices_4 : decode cX9_setPrices 4 = .ok (.iload_n 2, 1) := by decide +kernel
theorem dX9_setPrices_5 : decode cX9_setPrices 5 = .ok (.iconst 0, 1) := by decide +kernel
theorem dX9_setPrices_6 : decode cX9_setPrices 6 = .ok (.bipush 9, 2) := by decide +kernel
theorem dX9_setPrices_8 : decode cX9_setPrices 8 = .ok (.invokestatic 85, 3) := by decide +kernel
theorem dX9_setPrices_11 : decode cX9_setPrices 11 = .ok (.iload_n 3, 1) := by decide +kernel
theorem dX9_setPrices_12 : decode cX9_setPrices 12 = .ok (.iconst 0, 1) := by decide +kernel
theorem dX9_setPrices_13 : decode cX9_setPrices 13 = .ok (.bipush 9, 2) := by decide +kernel
theorem dX9_setPrices_15 : decode cX9_setPrices 15 = .ok (.invokestatic 85, 3) := by decide +kernel
theorem dX9_setPrices_18 : decode cX9_setPrices 18 = .ok (.aload_n 0, 1) := by decide +kernel
theorem dX9_setPrices_19 : decode cX9_setPrices 19 = .ok (.getfield 56, 3) := by decide +kernel
theorem dX9_setPrices_22 : decode cX9_setPrices 22 = .ok (.invokevirtual 89, 3) := by decide +kernel
theorem dX9_setPrices_25 : decode cX9_setPrices 25 = .ok (.ifCond .eq 13, 3) := by decide +kernel
theorem dX9_setPrices_28 : decode cX9_setPrices 28 = .ok (.new 93, 3) := by decide +kernel
theorem dX9_setPrices_31 : decode cX9_setPrices 31 = .ok (.dup, 1) := by decide +kernel
theorem dX9_setPrices_32 : decode cX9_setPrices 32 = .ok (.ldc 95, 2) := by decide +kernel
theorem dX9_setPrices_34 : decode cX9_setPrices 34 = .ok (.invokespecial 97, 3) := by decide +kernel
theorem dX9_setPrices_37 : decode cX9_setPrices 37 = .ok (.athrow, 1) := by decide +kernel
theorem dX9_setPrices_38 : decode cX9_setPrices 38 = .ok (.aload_n 0, 1) := by decide +kernel
theorem dX9_setPrices_39 : decode cX9_setPrices 39 = .ok (.getfield 56, 3) := by decide +kernel
theorem dX9_setPrices_42 : decode cX9_setPrices 42 = .ok (.iload_n 1, 1) := by decide +kernel
theorem dX9_setPrices_43 : decode cX9_setPrices 43 = .ok (.aload_n 0, 1) := by decide +kernel
theorem dX9_setPrices_44 : decode cX9_setPrices 44 = .ok (.getfield 74, 3) := by decide +kernel
theorem dX9_setPrices_47 : decode cX9_setPrices 47 = .ok (.invokevirtual 100, 3) := by decide +kernel
theorem dX9_setPrices_50 : decode cX9_setPrices 50 = .ok (.istore 4, 2) := by decide +kernel
theorem dX9_setPrices_52 : decode cX9_setPrices 52 = .ok (.aload_n 0, 1) := by decide +kernel
theorem dX9_setPrices_53 : decode cX9_setPrices 53 = .ok (.getfield 56, 3) := by decide +kernel
theorem dX9_setPrices_56 : decode cX9_setPrices 56 = .ok (.iload_n 1, 1) := by decide +kernel
theorem dX9_setPrices_57 : decode cX9_setPrices 57 = .ok (.aload_n 0, 1) := by decide +kernel
theorem dX9_setPrices_58 : decode cX9_setPrices 58 = .ok (.getfield 74, 3) := by decide +kernel
theorem dX9_setPrices_61 : decode cX9_setPrices 61 = .ok (.iload_n 2, 1) := by decide +kernel
theorem dX9_setPrices_62 : decode cX9_setPrices 62 = .ok (.iload_n 3, 1) := by decide +kernel
theorem dX9_setPrices_63 : decode cX9_setPrices 63 = .ok (.invokevirtual 104, 3) := by decide +kernel
theorem dX9_setPrices_66 : decode cX9_setPrices 66 = .ok (.iload 4, 2) := by decide +kernel
theorem dX9_setPrices_68 : decode cX9_setPrices 68 = .ok (.ireturn, 1) := by decide +kernel
theorem dX9_setDelay_0 : decode cX9_setDelay 0 = .ok (.iload_n 1, 1) := by decide +kernel
theorem dX9_setDelay_1 : decode cX9_setDelay 1 = .ok (.invokestatic 81, 3) := by decide +kernel
theorem dX9_setDelay_4 : decode cX9_setDelay 4 = .ok (.iload_n 2, 1) := by decide +kernel
theorem dX9_setDelay_5 : decode cX9_setDelay 5 = .ok (.iconst 0, 1) := by decide +kernel
theorem dX9_setDelay_6 : decode cX9_setDelay 6 = .ok (.sipush 5000, 3) := by decide +kernel
theorem dX9_setDelay_9 : decode cX9_setDelay 9 = .ok (.invokestatic 85, 3) := by decide +kernel
theorem dX9_setDelay_12 : decode cX9_setDelay 12 = .ok (.aload_n 0, 1) := by decide +kernel
theorem dX9_setDelay_13 : decode cX9_setDelay 13 = .ok (.getfield 19, 3) := by decide +kernel
theorem dX9_setDelay_16 : decode cX9_setDelay 16 = .ok (.getfield 108, 3) := by decide +kernel
theorem dX9_setDelay_19 : decode cX9_setDelay 19 = .ok (.iload_n 1, 1) := by decide +kernel
theorem dX9_setDelay_20 : decode cX9_setDelay 20 = .ok (.invokevirtual 111, 3) := by decide +kernel
theorem dX9_setDelay_23 : decode cX9_setDelay 23 = .ok (.istore_n 3, 1) := by decide +kernel
theorem dX9_setDelay_24 : decode cX9_setDelay 24 = .ok (.aload_n 0, 1) := by decide +kernel
theorem dX9_setDelay_25 : decode cX9_setDelay 25 = .ok (.getfield 19, 3) := by decide +kernel
theorem dX9_setDelay_28 : decode cX9_setDelay 28 = .ok (.getfield 108, 3) := by decide +kernel
theorem dX9_setDelay_31 : decode cX9_setDelay 31 = .ok (.iload_n 1, 1) := by decide +kernel
theorem dX9_setDelay_32 : decode cX9_setDelay 32 = .ok (.iload_n 2, 1) := by decide +kernel
theorem dX9_setDelay_33 : decode cX9_setDelay 33 = .ok (.invokevirtual 115, 3) := by decide +kernel
theorem dX9_setDelay_36 : decode cX9_setDelay 36 = .ok (.iload_n 3, 1) := by decide +kernel
theorem dX9_setDelay_37 : decode cX9_setDelay 37 = .ok (.ireturn, 1) := by decide +kernel
theorem dX9_setTrunk_0 : decode cX9_setTrunk 0 = .ok (.iload_n 1, 1) := by decide +kernel
theorem dX9_setTrunk_1 : decode cX9_setTrunk 1 = .ok (.invokestatic 81, 3) := by decide +kernel
theorem dX9_setTrunk_4 : decode cX9_setTrunk 4 = .ok (.iload_n 2, 1) := by decide +kernel
theorem dX9_setTrunk_5 : decode cX9_setTrunk 5 = .ok (.invokestatic 81, 3) := by decide +kernel
theorem dX9_setTrunk_8 : decode cX9_setTrunk 8 = .ok (.iload_n 1, 1) := by decide +kernel
theorem dX9_setTrunk_9 : decode cX9_setTrunk 9 = .ok (.iload_n 2, 1) := by decide +kernel
theorem dX9_setTrunk_10 : decode cX9_setTrunk 10 = .ok (.invokestatic 118, 3) := by decide +kernel
theorem dX9_setTrunk_13 : decode cX9_setTrunk 13 = .ok (.iload_n 3, 1) := by decide +kernel
theorem dX9_setTrunk_14 : decode cX9_setTrunk 14 = .ok (.iconst 0, 1) := by decide +kernel
theorem dX9_setTrunk_15 : decode cX9_setTrunk 15 = .ok (.iconst 5, 1) := by decide +kernel
theorem dX9_setTrunk_16 : decode cX9_setTrunk 16 = .ok (.invokestatic 85, 3) := by decide +kernel
theorem dX9_setTrunk_19 : decode cX9_setTrunk 19 = .ok (.aload_n 0, 1) := by decide +kernel
theorem dX9_setTrunk_20 : decode cX9_setTrunk 20 = .ok (.getfield 35, 3) := by decide +kernel
theorem dX9_setTrunk_23 : decode cX9_setTrunk 23 = .ok (.iload_n 1, 1) := by decide +kernel
theorem dX9_setTrunk_24 : decode cX9_setTrunk 24 = .ok (.iload_n 2, 1) := by decide +kernel
theorem dX9_setTrunk_25 : decode cX9_setTrunk 25 = .ok (.iload_n 3, 1) := by decide +kernel
theorem dX9_setTrunk_26 : decode cX9_setTrunk 26 = .ok (.invokevirtual 121, 3) := by decide +kernel
theorem dX9_setTrunk_29 : decode cX9_setTrunk 29 = .ok (.aload_n 0, 1) := by decide +kernel
theorem dX9_setTrunk_30 : decode cX9_setTrunk 30 = .ok (.iload_n 1, 1) := by decide +kernel
theorem dX9_setTrunk_31 : decode cX9_setTrunk 31 = .ok (.iload_n 2, 1) := by decide +kernel
theorem dX9_setTrunk_32 : decode cX9_setTrunk 32 = .ok (.invokevirtual 123, 3) := by decide +kernel
theorem dX9_setTrunk_35 : decode cX9_setTrunk 35 = .ok (.ireturn, 1) := by decide +kernel
theorem dX9_port_0 : decode cX9_port 0 = .ok (.iload_n 1, 1) := by decide +kernel
theorem dX9_port_1 : decode cX9_port 1 = .ok (.invokestatic 126, 3) := by decide +kernel
theorem dX9_port_4 : decode cX9_port 4 = .ok (.iload_n 2, 1) := by decide +kernel
theorem dX9_port_5 : decode cX9_port 5 = .ok (.invokestatic 81, 3) := by decide +kernel
theorem dX9_port_8 : decode cX9_port 8 = .ok (.aload_n 0, 1) := by decide +kernel
theorem dX9_port_9 : decode cX9_port 9 = .ok (.getfield 12, 3) := by decide +kernel
theorem dX9_port_12 : decode cX9_port 12 = .ok (.getfield 129, 3) := by decide +kernel
theorem dX9_port_15 : decode cX9_port 15 = .ok (.iload_n 1, 1) := by decide +kernel
theorem dX9_port_16 : decode cX9_port 16 = .ok (.invokevirtual 111, 3) := by decide +kernel
theorem dX9_port_19 : decode cX9_port 19 = .ok (.istore_n 3, 1) := by decide +kernel
theorem dX9_port_20 : decode cX9_port 20 = .ok (.aload_n 0, 1) := by decide +kernel
theorem dX9_port_21 : decode cX9_port 21 = .ok (.getfield 12, 3) := by decide +kernel
theorem dX9_port_24 : decode cX9_port 24 = .ok (.getfield 131, 3) := by decide +kernel
theorem dX9_port_27 : decode cX9_port 27 = .ok (.iload_n 1, 1) := by decide +kernel
theorem dX9_port_28 : decode cX9_port 28 = .ok (.invokevirtual 111, 3) := by decide +kernel
theorem dX9_port_31 : decode cX9_port 31 = .ok (.istore 4, 2) := by decide +kernel
theorem dX9_port_33 : decode cX9_port 33 = .ok (.iload_n 3, 1) := by decide +kernel
theorem dX9_port_34 : decode cX9_port 34 = .ok (.iload_n 2, 1) := by decide +kernel
theorem dX9_port_35 : decode cX9_port 35 = .ok (.if_icmp .ne 13, 3) := by decide +kernel
theorem dX9_port_38 : decode cX9_port 38 = .ok (.new 93, 3) := by decide +kernel
theorem dX9_port_41 : decode cX9_port 41 = .ok (.dup, 1) := by decide +kernel
theorem dX9_port_42 : decode cX9_port 42 = .ok (.ldc 134, 2) := by decide +kernel
theorem dX9_port_44 : decode cX9_port 44 = .ok (.invokespecial 97, 3) := by decide +kernel
theorem dX9_port_47 : decode cX9_port 47 = .ok (.athrow, 1) := by decide +kernel
theorem dX9_port_48 : decode cX9_port 48 = .ok (.aload_n 0, 1) := by decide +kernel
theorem dX9_port_49 : decode cX9_port 49 = .ok (.getfield 12, 3) := by decide +kernel
theorem dX9_port_52 : decode cX9_port 52 = .ok (.getfield 136, 3) := by decide +kernel
theorem dX9_port_55 : decode cX9_port 55 = .ok (.iload_n 1, 1) := by decide +kernel
theorem dX9_port_56 : decode cX9_port 56 = .ok (.invokevirtual 111, 3) := by decide +kernel
theorem dX9_port_59 : decode cX9_port 59 = .ok (.iload 4, 2) := by decide +kernel
theorem dX9_port_61 : decode cX9_port 61 = .ok (.if_icmp .ge 13, 3) := by decide +kernel
theorem dX9_port_64 : decode cX9_port 64 = .ok (.new 93, 3) := by decide +kernel
theorem dX9_port_67 : decode cX9_port 67 = .ok (.dup, 1) := by decide +kernel
theorem dX9_port_68 : decode cX9_port 68 = .ok (.ldc 139, 2) := by decide +kernel
theorem dX9_port_70 : decode cX9_port 70 = .ok (.invokespecial 97, 3) := by decide +kernel
theorem dX9_port_73 : decode cX9_port 73 = .ok (.athrow, 1) := by decide +kernel
theorem dX9_port_74 : decode cX9_port 74 = .ok (.aload_n 0, 1) := by decide +kernel
theorem dX9_port_75 : decode cX9_port 75 = .ok (.getfield 42, 3) := by decide +kernel
theorem dX9_port_78 : decode cX9_port 78 = .ok (.invokevirtual 141, 3) := by decide +kernel
theorem dX9_port_81 : decode cX9_port 81 = .ok (.ifCond .eq 13, 3) := by decide +kernel
theorem dX9_port_84 : decode cX9_port 84 = .ok (.new 93, 3) := by decide +kernel
theorem dX9_port_87 : decode cX9_port 87 = .ok (.dup, 1) := by decide +kernel
theorem dX9_port_88 : decode cX9_port 88 = .ok (.ldc 142, 2) := by decide +kernel
theorem dX9_port_90 : decode cX9_port 90 = .ok (.invokespecial 97, 3) := by decide +kernel
theorem dX9_port_93 : decode cX9_port 93 = .ok (.athrow, 1) := by decide +kernel
theorem dX9_port_94 : decode cX9_port 94 = .ok (.aload_n 0, 1) := by decide +kernel
theorem dX9_port_95 : decode cX9_port 95 = .ok (.getfield 42, 3) := by decide +kernel
theorem dX9_port_98 : decode cX9_port 98 = .ok (.iload_n 1, 1) := by decide +kernel
theorem dX9_port_99 : decode cX9_port 99 = .ok (.iload_n 3, 1) := by decide +kernel
theorem dX9_port_100 : decode cX9_port 100 = .ok (.iload_n 2, 1) := by decide +kernel
theorem dX9_port_101 : decode cX9_port 101 = .ok (.aload_n 0, 1) := by decide +kernel
theorem dX9_port_102 : decode cX9_port 102 = .ok (.getfield 74, 3) := by decide +kernel
theorem dX9_port_105 : decode cX9_port 105 = .ok (.aload_n 0, 1) := by decide +kernel
theorem dX9_port_106 : decode cX9_port 106 = .ok (.getfield 19, 3) := by decide +kernel
theorem dX9_port_109 : decode cX9_port 109 = .ok (.getfield 108, 3) := by decide +kernel
theorem dX9_port_112 : decode cX9_port 112 = .ok (.invokevirtual 144, 3) := by decide +kernel
theorem dX9_port_115 : decode cX9_port 115 = .ok (.aload_n 0, 1) := by decide +kernel
theorem dX9_port_116 : decode cX9_port 116 = .ok (.getfield 12, 3) := by decide +kernel
theorem dX9_port_119 : decode cX9_port 119 = .ok (.getfield 129, 3) := by decide +kernel
theorem dX9_port_122 : decode cX9_port 122 = .ok (.iload_n 1, 1) := by decide +kernel
theorem dX9_port_123 : decode cX9_port 123 = .ok (.iload_n 2, 1) := by decide +kernel
theorem dX9_port_124 : decode cX9_port 124 = .ok (.invokevirtual 115, 3) := by decide +kernel
theorem dX9_port_127 : decode cX9_port 127 = .ok (.aload_n 0, 1) := by decide +kernel
theorem dX9_port_128 : decode cX9_port 128 = .ok (.getfield 19, 3) := by decide +kernel
theorem dX9_port_131 : decode cX9_port 131 = .ok (.iload_n 2, 1) := by decide +kernel
theorem dX9_port_132 : decode cX9_port 132 = .ok (.iload_n 3, 1) := by decide +kernel
theorem dX9_port_133 : decode cX9_port 133 = .ok (.iload 4, 2) := by decide +kernel
theorem dX9_port_135 : decode cX9_port 135 = .ok (.invokevirtual 148, 3) := by decide +kernel
theorem dX9_port_138 : decode cX9_port 138 = .ok (.iload 4, 2) := by decide +kernel
theorem dX9_port_140 : decode cX9_port 140 = .ok (.ireturn, 1) := by decide +kernel
theorem dX9_sell_0 : decode cX9_sell 0 = .ok (.iload_n 1, 1) := by decide +kernel
theorem dX9_sell_1 : decode cX9_sell 1 = .ok (.invokestatic 126, 3) := by decide +kernel
theorem dX9_sell_4 : decode cX9_sell 4 = .ok (.iload_n 2, 1) := by decide +kernel
theorem dX9_sell_5 : decode cX9_sell 5 = .ok (.invokestatic 151, 3) := by decide +kernel
theorem dX9_sell_8 : decode cX9_sell 8 = .ok (.aload_n 0, 1) := by decide +kernel
theorem dX9_sell_9 : decode cX9_sell 9 = .ok (.getfield 12, 3) := by decide +kernel
theorem dX9_sell_12 : decode cX9_sell 12 = .ok (.getfield 154, 3) := by decide +kernel
theorem dX9_sell_15 : decode cX9_sell 15 = .ok (.iload_n 1, 1) := by decide +kernel
theorem dX9_sell_16 : decode cX9_sell 16 = .ok (.invokevirtual 111, 3) := by decide +kernel
theorem dX9_sell_19 : decode cX9_sell 19 = .ok (.istore_n 3, 1) := by decide +kernel
theorem dX9_sell_20 : decode cX9_sell 20 = .ok (.iload_n 3, 1) := by decide +kernel
theorem dX9_sell_21 : decode cX9_sell 21 = .ok (.iload_n 2, 1) := by decide +kernel
theorem dX9_sell_22 : decode cX9_sell 22 = .ok (.if_icmp .ne 13, 3) := by decide +kernel
theorem dX9_sell_25 : decode cX9_sell 25 = .ok (.new 93, 3) := by decide +kernel
theorem dX9_sell_28 : decode cX9_sell 28 = .ok (.dup, 1) := by decide +kernel
theorem dX9_sell_29 : decode cX9_sell 29 = .ok (.ldc 157, 2) := by decide +kernel
theorem dX9_sell_31 : decode cX9_sell 31 = .ok (.invokespecial 97, 3) := by decide +kernel
theorem dX9_sell_34 : decode cX9_sell 34 = .ok (.athrow, 1) := by decide +kernel
theorem dX9_sell_35 : decode cX9_sell 35 = .ok (.aload_n 0, 1) := by decide +kernel
theorem dX9_sell_36 : decode cX9_sell 36 = .ok (.getfield 49, 3) := by decide +kernel
theorem dX9_sell_39 : decode cX9_sell 39 = .ok (.invokevirtual 159, 3) := by decide +kernel
theorem dX9_sell_42 : decode cX9_sell 42 = .ok (.ifCond .eq 13, 3) := by decide +kernel
theorem dX9_sell_45 : decode cX9_sell 45 = .ok (.new 93, 3) := by decide +kernel
theorem dX9_sell_48 : decode cX9_sell 48 = .ok (.dup, 1) := by decide +kernel
theorem dX9_sell_49 : decode cX9_sell 49 = .ok (.ldc 160, 2) := by decide +kernel
theorem dX9_sell_51 : decode cX9_sell 51 = .ok (.invokespecial 97, 3) := by decide +kernel
theorem dX9_sell_54 : decode cX9_sell 54 = .ok (.athrow, 1) := by decide +kernel
theorem dX9_sell_55 : decode cX9_sell 55 = .ok (.aload_n 0, 1) := by decide +kernel
theorem dX9_sell_56 : decode cX9_sell 56 = .ok (.getfield 49, 3) := by decide +kernel
theorem dX9_sell_59 : decode cX9_sell 59 = .ok (.iload_n 1, 1) := by decide +kernel
theorem dX9_sell_60 : decode cX9_sell 60 = .ok (.aload_n 0, 1) := by decide +kernel
theorem dX9_sell_61 : decode cX9_sell 61 = .ok (.getfield 74, 3) := by decide +kernel
theorem dX9_sell_64 : decode cX9_sell 64 = .ok (.iload_n 2, 1) := by decide +kernel
theorem dX9_sell_65 : decode cX9_sell 65 = .ok (.invokevirtual 162, 3) := by decide +kernel
theorem dX9_sell_68 : decode cX9_sell 68 = .ok (.aload_n 0, 1) := by decide +kernel
theorem dX9_sell_69 : decode cX9_sell 69 = .ok (.getfield 12, 3) := by decide +kernel
theorem dX9_sell_72 : decode cX9_sell 72 = .ok (.getfield 154, 3) := by decide +kernel
theorem dX9_sell_75 : decode cX9_sell 75 = .ok (.iload_n 1, 1) := by decide +kernel
theorem dX9_sell_76 : decode cX9_sell 76 = .ok (.iload_n 2, 1) := by decide +kernel
theorem dX9_sell_77 : decode cX9_sell 77 = .ok (.invokevirtual 115, 3) := by decide +kernel
theorem dX9_sell_80 : decode cX9_sell 80 = .ok (.iload_n 3, 1) := by decide +kernel
theorem dX9_sell_81 : decode cX9_sell 81 = .ok (.ireturn, 1) := by decide +kernel
theorem dX9_bond_0 : decode cX9_bond 0 = .ok (.iload_n 1, 1) := by decide +kernel
theorem dX9_bond_1 : decode cX9_bond 1 = .ok (.invokestatic 126, 3) := by decide +kernel
theorem dX9_bond_4 : decode cX9_bond 4 = .ok (.iload_n 2, 1) := by decide +kernel
theorem dX9_bond_5 : decode cX9_bond 5 = .ok (.iconst 1, 1) := by decide +kernel
theorem dX9_bond_6 : decode cX9_bond 6 = .ok (.sipush 5000, 3) := by decide +kernel
theorem dX9_bond_9 : decode cX9_bond 9 = .ok (.invokestatic 85, 3) := by decide +kernel
theorem dX9_bond_12 : decode cX9_bond 12 = .ok (.aload_n 0, 1) := by decide +kernel
theorem dX9_bond_13 : decode cX9_bond 13 = .ok (.getfield 12, 3) := by decide +kernel
theorem dX9_bond_16 : decode cX9_bond 16 = .ok (.getfield 136, 3) := by decide +kernel
theorem dX9_bond_19 : decode cX9_bond 19 = .ok (.iload_n 1, 1) := by decide +kernel
theorem dX9_bond_20 : decode cX9_bond 20 = .ok (.invokevirtual 111, 3) := by decide +kernel
theorem dX9_bond_23 : decode cX9_bond 23 = .ok (.iload_n 2, 1) := by decide +kernel
theorem dX9_bond_24 : decode cX9_bond 24 = .ok (.iadd, 1) := by decide +kernel
theorem dX9_bond_25 : decode cX9_bond 25 = .ok (.istore_n 3, 1) := by decide +kernel
theorem dX9_bond_26 : decode cX9_bond 26 = .ok (.iload_n 3, 1) := by decide +kernel
theorem dX9_bond_27 : decode cX9_bond 27 = .ok (.sipush 5000, 3) := by decide +kernel
theorem dX9_bond_30 : decode cX9_bond 30 = .ok (.if_icmp .le 13, 3) := by decide +kernel
theorem dX9_bond_33 : decode cX9_bond 33 = .ok (.new 93, 3) := by decide +kernel
theorem dX9_bond_36 : decode cX9_bond 36 = .ok (.dup, 1) := by decide +kernel
theorem dX9_bond_37 : decode cX9_bond 37 = .ok (.ldc 165, 2) := by decide +kernel
theorem dX9_bond_39 : decode cX9_bond 39 = .ok (.invokespecial 97, 3) := by decide +kernel
theorem dX9_bond_42 : decode cX9_bond 42 = .ok (.athrow, 1) := by decide +kernel
theorem dX9_bond_43 : decode cX9_bond 43 = .ok (.aload_n 0, 1) := by decide +kernel
theorem dX9_bond_44 : decode cX9_bond 44 = .ok (.getfield 12, 3) := by decide +kernel
theorem dX9_bond_47 : decode cX9_bond 47 = .ok (.getfield 136, 3) := by decide +kernel
theorem dX9_bond_50 : decode cX9_bond 50 = .ok (.iload_n 1, 1) := by decide +kernel
theorem dX9_bond_51 : decode cX9_bond 51 = .ok (.iload_n 3, 1) := by decide +kernel
theorem dX9_bond_52 : decode cX9_bond 52 = .ok (.invokevirtual 115, 3) := by decide +kernel
theorem dX9_bond_55 : decode cX9_bond 55 = .ok (.iload_n 3, 1) := by decide +kernel
theorem dX9_bond_56 : decode cX9_bond 56 = .ok (.ireturn, 1) := by decide +kernel
theorem dX9_pay_0 : decode cX9_pay 0 = .ok (.iload_n 1, 1) := by decide +kernel
theorem dX9_pay_1 : decode cX9_pay 1 = .ok (.invokestatic 126, 3) := by decide +kernel
theorem dX9_pay_4 : decode cX9_pay 4 = .ok (.iload_n 2, 1) := by decide +kernel
theorem dX9_pay_5 : decode cX9_pay 5 = .ok (.iconst 1, 1) := by decide +kernel
theorem dX9_pay_6 : decode cX9_pay 6 = .ok (.aload_n 0, 1) := by decide +kernel
theorem dX9_pay_7 : decode cX9_pay 7 = .ok (.getfield 12, 3) := by decide +kernel
theorem dX9_pay_10 : decode cX9_pay 10 = .ok (.getfield 131, 3) := by decide +kernel
theorem dX9_pay_13 : decode cX9_pay 13 = .ok (.iload_n 1, 1) := by decide +kernel
theorem dX9_pay_14 : decode cX9_pay 14 = .ok (.invokevirtual 111, 3) := by decide +kernel
theorem dX9_pay_17 : decode cX9_pay 17 = .ok (.invokestatic 85, 3) := by decide +kernel
theorem dX9_pay_20 : decode cX9_pay 20 = .ok (.aload_n 0, 1) := by decide +kernel
theorem dX9_pay_21 : decode cX9_pay 21 = .ok (.iload_n 1, 1) := by decide +kernel
theorem dX9_pay_22 : decode cX9_pay 22 = .ok (.iload_n 2, 1) := by decide +kernel
theorem dX9_pay_23 : decode cX9_pay 23 = .ok (.invokevirtual 167, 3) := by decide +kernel
theorem dX9_pay_26 : decode cX9_pay 26 = .ok (.ireturn, 1) := by decide +kernel
theorem dX9_judge_0 : decode cX9_judge 0 = .ok (.iload_n 1, 1) := by decide +kernel
theorem dX9_judge_1 : decode cX9_judge 1 = .ok (.invokestatic 126, 3) := by decide +kernel
theorem dX9_judge_4 : decode cX9_judge 4 = .ok (.aload_n 0, 1) := by decide +kernel
theorem dX9_judge_5 : decode cX9_judge 5 = .ok (.getfield 12, 3) := by decide +kernel
theorem dX9_judge_8 : decode cX9_judge 8 = .ok (.getfield 131, 3) := by decide +kernel
theorem dX9_judge_11 : decode cX9_judge 11 = .ok (.iload_n 1, 1) := by decide +kernel
theorem dX9_judge_12 : decode cX9_judge 12 = .ok (.invokevirtual 111, 3) := by decide +kernel
theorem dX9_judge_15 : decode cX9_judge 15 = .ok (.istore_n 2, 1) := by decide +kernel
theorem dX9_judge_16 : decode cX9_judge 16 = .ok (.iload_n 2, 1) := by decide +kernel
theorem dX9_judge_17 : decode cX9_judge 17 = .ok (.ifCond .gt 13, 3) := by decide +kernel
theorem dX9_judge_20 : decode cX9_judge 20 = .ok (.new 93, 3) := by decide +kernel
theorem dX9_judge_23 : decode cX9_judge 23 = .ok (.dup, 1) := by decide +kernel
theorem dX9_judge_24 : decode cX9_judge 24 = .ok (.ldc 170, 2) := by decide +kernel
theorem dX9_judge_26 : decode cX9_judge 26 = .ok (.invokespecial 97, 3) := by decide +kernel
theorem dX9_judge_29 : decode cX9_judge 29 = .ok (.athrow, 1) := by decide +kernel
theorem dX9_judge_30 : decode cX9_judge 30 = .ok (.aload_n 0, 1) := by decide +kernel
theorem dX9_judge_31 : decode cX9_judge 31 = .ok (.getfield 12, 3) := by decide +kernel
theorem dX9_judge_34 : decode cX9_judge 34 = .ok (.getfield 136, 3) := by decide +kernel
theorem dX9_judge_37 : decode cX9_judge 37 = .ok (.iload_n 1, 1) := by decide +kernel
theorem dX9_judge_38 : decode cX9_judge 38 = .ok (.invokevirtual 111, 3) := by decide +kernel
theorem dX9_judge_41 : decode cX9_judge 41 = .ok (.iload_n 2, 1) := by decide +kernel
theorem dX9_judge_42 : decode cX9_judge 42 = .ok (.invokestatic 172, 3) := by decide +kernel
theorem dX9_judge_45 : decode cX9_judge 45 = .ok (.istore_n 3, 1) := by decide +kernel
theorem dX9_judge_46 : decode cX9_judge 46 = .ok (.aload_n 0, 1) := by decide +kernel
theorem dX9_judge_47 : decode cX9_judge 47 = .ok (.getfield 12, 3) := by decide +kernel
theorem dX9_judge_50 : decode cX9_judge 50 = .ok (.getfield 136, 3) := by decide +kernel
theorem dX9_judge_53 : decode cX9_judge 53 = .ok (.iload_n 1, 1) := by decide +kernel
theorem dX9_judge_54 : decode cX9_judge 54 = .ok (.iload_n 3, 1) := by decide +kernel
theorem dX9_judge_55 : decode cX9_judge 55 = .ok (.ineg, 1) := by decide +kernel
theorem dX9_judge_56 : decode cX9_judge 56 = .ok (.invokevirtual 177, 3) := by decide +kernel
theorem dX9_judge_59 : decode cX9_judge 59 = .ok (.aload_n 0, 1) := by decide +kernel
theorem dX9_judge_60 : decode cX9_judge 60 = .ok (.iload_n 1, 1) := by decide +kernel
theorem dX9_judge_61 : decode cX9_judge 61 = .ok (.iload_n 3, 1) := by decide +kernel
theorem dX9_judge_62 : decode cX9_judge 62 = .ok (.invokevirtual 167, 3) := by decide +kernel
theorem dX9_judge_65 : decode cX9_judge 65 = .ok (.istore 4, 2) := by decide +kernel
theorem dX9_judge_67 : decode cX9_judge 67 = .ok (.iload 4, 2) := by decide +kernel
theorem dX9_judge_69 : decode cX9_judge 69 = .ok (.ifCond .le 15, 3) := by decide +kernel
theorem dX9_judge_72 : decode cX9_judge 72 = .ok (.aload_n 0, 1) := by decide +kernel
theorem dX9_judge_73 : decode cX9_judge 73 = .ok (.getfield 12, 3) := by decide +kernel
theorem dX9_judge_76 : decode cX9_judge 76 = .ok (.getfield 179, 3) := by decide +kernel
theorem dX9_judge_79 : decode cX9_judge 79 = .ok (.iload_n 1, 1) := by decide +kernel
theorem dX9_judge_80 : decode cX9_judge 80 = .ok (.iconst 1, 1) := by decide +kernel
theorem dX9_judge_81 : decode cX9_judge 81 = .ok (.invokevirtual 115, 3) := by decide +kernel
theorem dX9_judge_84 : decode cX9_judge 84 = .ok (.iload 4, 2) := by decide +kernel
theorem dX9_judge_86 : decode cX9_judge 86 = .ok (.ireturn, 1) := by decide +kernel
theorem dX9_call_0 : decode cX9_call 0 = .ok (.iload_n 1, 1) := by decide +kernel
theorem dX9_call_1 : decode cX9_call 1 = .ok (.invokestatic 126, 3) := by decide +kernel
theorem dX9_call_4 : decode cX9_call 4 = .ok (.iload_n 2, 1) := by decide +kernel
theorem dX9_call_5 : decode cX9_call 5 = .ok (.invokestatic 126, 3) := by decide +kernel
theorem dX9_call_8 : decode cX9_call 8 = .ok (.iload_n 1, 1) := by decide +kernel
theorem dX9_call_9 : decode cX9_call 9 = .ok (.iload_n 2, 1) := by decide +kernel
theorem dX9_call_10 : decode cX9_call 10 = .ok (.invokestatic 118, 3) := by decide +kernel
theorem dX9_call_13 : decode cX9_call 13 = .ok (.aload_n 0, 1) := by decide +kernel
theorem dX9_call_14 : decode cX9_call 14 = .ok (.getfield 12, 3) := by decide +kernel
theorem dX9_call_17 : decode cX9_call 17 = .ok (.getfield 182, 3) := by decide +kernel
theorem dX9_call_20 : decode cX9_call 20 = .ok (.iload_n 1, 1) := by decide +kernel
theorem dX9_call_21 : decode cX9_call 21 = .ok (.invokevirtual 111, 3) := by decide +kernel
theorem dX9_call_24 : decode cX9_call 24 = .ok (.iconst (-1), 1) := by decide +kernel
theorem dX9_call_25 : decode cX9_call 25 = .ok (.if_icmp .ne 18, 3) := by decide +kernel
theorem dX9_call_28 : decode cX9_call 28 = .ok (.aload_n 0, 1) := by decide +kernel
theorem dX9_call_29 : decode cX9_call 29 = .ok (.getfield 12, 3) := by decide +kernel
theorem dX9_call_32 : decode cX9_call 32 = .ok (.getfield 182, 3) := by decide +kernel
theorem dX9_call_35 : decode cX9_call 35 = .ok (.iload_n 2, 1) := by decide +kernel
theorem dX9_call_36 : decode cX9_call 36 = .ok (.invokevirtual 111, 3) := by decide +kernel
theorem dX9_call_39 : decode cX9_call 39 = .ok (.iconst (-1), 1) := by decide +kernel
theorem dX9_call_40 : decode cX9_call 40 = .ok (.if_icmp .eq 13, 3) := by decide +kernel
theorem dX9_call_43 : decode cX9_call 43 = .ok (.new 93, 3) := by decide +kernel
theorem dX9_call_46 : decode cX9_call 46 = .ok (.dup, 1) := by decide +kernel
theorem dX9_call_47 : decode cX9_call 47 = .ok (.ldc 184, 2) := by decide +kernel
theorem dX9_call_49 : decode cX9_call 49 = .ok (.invokespecial 97, 3) := by decide +kernel
theorem dX9_call_52 : decode cX9_call 52 = .ok (.athrow, 1) := by decide +kernel
theorem dX9_call_53 : decode cX9_call 53 = .ok (.aload_n 0, 1) := by decide +kernel
theorem dX9_call_54 : decode cX9_call 54 = .ok (.getfield 12, 3) := by decide +kernel
theorem dX9_call_57 : decode cX9_call 57 = .ok (.getfield 179, 3) := by decide +kernel
theorem dX9_call_60 : decode cX9_call 60 = .ok (.iload_n 1, 1) := by decide +kernel
theorem dX9_call_61 : decode cX9_call 61 = .ok (.invokevirtual 111, 3) := by decide +kernel
theorem dX9_call_64 : decode cX9_call 64 = .ok (.ifCond .eq 13, 3) := by decide +kernel
theorem dX9_call_67 : decode cX9_call 67 = .ok (.new 93, 3) := by decide +kernel
theorem dX9_call_70 : decode cX9_call 70 = .ok (.dup, 1) := by decide +kernel
theorem dX9_call_71 : decode cX9_call 71 = .ok (.ldc 186, 2) := by decide +kernel
theorem dX9_call_73 : decode cX9_call 73 = .ok (.invokespecial 97, 3) := by decide +kernel
theorem dX9_call_76 : decode cX9_call 76 = .ok (.athrow, 1) := by decide +kernel
theorem dX9_call_77 : decode cX9_call 77 = .ok (.aload_n 0, 1) := by decide +kernel
theorem dX9_call_78 : decode cX9_call 78 = .ok (.getfield 63, 3) := by decide +kernel
theorem dX9_call_81 : decode cX9_call 81 = .ok (.invokevirtual 188, 3) := by decide +kernel
theorem dX9_call_84 : decode cX9_call 84 = .ok (.ifCond .eq 13, 3) := by decide +kernel
theorem dX9_call_87 : decode cX9_call 87 = .ok (.new 93, 3) := by decide +kernel
theorem dX9_call_90 : decode cX9_call 90 = .ok (.dup, 1) := by decide +kernel
theorem dX9_call_91 : decode cX9_call 91 = .ok (.ldc 189, 2) := by decide +kernel
theorem dX9_call_93 : decode cX9_call 93 = .ok (.invokespecial 97, 3) := by decide +kernel
theorem dX9_call_96 : decode cX9_call 96 = .ok (.athrow, 1) := by decide +kernel
theorem dX9_call_97 : decode cX9_call 97 = .ok (.aload_n 0, 1) := by decide +kernel
theorem dX9_call_98 : decode cX9_call 98 = .ok (.iload_n 1, 1) := by decide +kernel
theorem dX9_call_99 : decode cX9_call 99 = .ok (.iload_n 2, 1) := by decide +kernel
theorem dX9_call_100 : decode cX9_call 100 = .ok (.invokevirtual 191, 3) := by decide +kernel
theorem dX9_call_103 : decode cX9_call 103 = .ok (.ifCond .eq 10, 3) := by decide +kernel
theorem dX9_call_106 : decode cX9_call 106 = .ok (.aload_n 0, 1) := by decide +kernel
theorem dX9_call_107 : decode cX9_call 107 = .ok (.iload_n 1, 1) := by decide +kernel
theorem dX9_call_108 : decode cX9_call 108 = .ok (.iload_n 2, 1) := by decide +kernel
theorem dX9_call_109 : decode cX9_call 109 = .ok (.invokevirtual 195, 3) := by decide +kernel
theorem dX9_call_112 : decode cX9_call 112 = .ok (.ireturn, 1) := by decide +kernel
theorem dX9_call_113 : decode cX9_call 113 = .ok (.aload_n 0, 1) := by decide +kernel
theorem dX9_call_114 : decode cX9_call 114 = .ok (.dup, 1) := by decide +kernel
theorem dX9_call_115 : decode cX9_call 115 = .ok (.getfield 78, 3) := by decide +kernel
theorem dX9_call_118 : decode cX9_call 118 = .ok (.iconst 1, 1) := by decide +kernel
theorem dX9_call_119 : decode cX9_call 119 = .ok (.iadd, 1) := by decide +kernel
theorem dX9_call_120 : decode cX9_call 120 = .ok (.putfield 78, 3) := by decide +kernel
theorem dX9_call_123 : decode cX9_call 123 = .ok (.aload_n 0, 1) := by decide +kernel
theorem dX9_call_124 : decode cX9_call 124 = .ok (.getfield 70, 3) := by decide +kernel
theorem dX9_call_127 : decode cX9_call 127 = .ok (.getfield 198, 3) := by decide +kernel
theorem dX9_call_130 : decode cX9_call 130 = .ok (.iconst 1, 1) := by decide +kernel
theorem dX9_call_131 : decode cX9_call 131 = .ok (.if_icmp .le 24, 3) := by decide +kernel
theorem dX9_call_134 : decode cX9_call 134 = .ok (.aload_n 0, 1) := by decide +kernel
theorem dX9_call_135 : decode cX9_call 135 = .ok (.getfield 19, 3) := by decide +kernel
theorem dX9_call_138 : decode cX9_call 138 = .ok (.aload_n 0, 1) := by decide +kernel
theorem dX9_call_139 : decode cX9_call 139 = .ok (.getfield 70, 3) := by decide +kernel
theorem dX9_call_142 : decode cX9_call 142 = .ok (.invokevirtual 201, 3) := by decide +kernel
theorem dX9_call_145 : decode cX9_call 145 = .ok (.aload_n 0, 1) := by decide +kernel
theorem dX9_call_146 : decode cX9_call 146 = .ok (.getfield 70, 3) := by decide +kernel
theorem dX9_call_149 : decode cX9_call 149 = .ok (.invokevirtual 205, 3) := by decide +kernel
theorem dX9_call_152 : decode cX9_call 152 = .ok (.invokevirtual 208, 3) := by decide +kernel
theorem dX9_call_155 : decode cX9_call 155 = .ok (.iconst (-1), 1) := by decide +kernel
theorem dX9_call_156 : decode cX9_call 156 = .ok (.ireturn, 1) := by decide +kernel
theorem dX9_hangUp_0 : decode cX9_hangUp 0 = .ok (.aload_n 0, 1) := by decide +kernel
theorem dX9_hangUp_1 : decode cX9_hangUp 1 = .ok (.iload_n 1, 1) := by decide +kernel
theorem dX9_hangUp_2 : decode cX9_hangUp 2 = .ok (.invokevirtual 211, 3) := by decide +kernel
theorem dX9_hangUp_5 : decode cX9_hangUp 5 = .ok (.aload_n 0, 1) := by decide +kernel
theorem dX9_hangUp_6 : decode cX9_hangUp 6 = .ok (.getfield 63, 3) := by decide +kernel
theorem dX9_hangUp_9 : decode cX9_hangUp 9 = .ok (.iload_n 1, 1) := by decide +kernel
theorem dX9_hangUp_10 : decode cX9_hangUp 10 = .ok (.invokevirtual 214, 3) := by decide +kernel
theorem dX9_hangUp_13 : decode cX9_hangUp 13 = .ok (.ifCond .ne 13, 3) := by decide +kernel
theorem dX9_hangUp_16 : decode cX9_hangUp 16 = .ok (.new 93, 3) := by decide +kernel
theorem dX9_hangUp_19 : decode cX9_hangUp 19 = .ok (.dup, 1) := by decide +kernel
theorem dX9_hangUp_20 : decode cX9_hangUp 20 = .ok (.ldc 218, 2) := by decide +kernel
theorem dX9_hangUp_22 : decode cX9_hangUp 22 = .ok (.invokespecial 97, 3) := by decide +kernel
theorem dX9_hangUp_25 : decode cX9_hangUp 25 = .ok (.athrow, 1) := by decide +kernel
theorem dX9_hangUp_26 : decode cX9_hangUp 26 = .ok (.aload_n 0, 1) := by decide +kernel
theorem dX9_hangUp_27 : decode cX9_hangUp 27 = .ok (.iload_n 1, 1) := by decide +kernel
theorem dX9_hangUp_28 : decode cX9_hangUp 28 = .ok (.iconst 1, 1) := by decide +kernel
theorem dX9_hangUp_29 : decode cX9_hangUp 29 = .ok (.invokevirtual 220, 3) := by decide +kernel
theorem dX9_hangUp_32 : decode cX9_hangUp 32 = .ok (.aload_n 0, 1) := by decide +kernel
theorem dX9_hangUp_33 : decode cX9_hangUp 33 = .ok (.getfield 63, 3) := by decide +kernel
theorem dX9_hangUp_36 : decode cX9_hangUp 36 = .ok (.iload_n 1, 1) := by decide +kernel
theorem dX9_hangUp_37 : decode cX9_hangUp 37 = .ok (.aload_n 0, 1) := by decide +kernel
theorem dX9_hangUp_38 : decode cX9_hangUp 38 = .ok (.getfield 74, 3) := by decide +kernel
theorem dX9_hangUp_41 : decode cX9_hangUp 41 = .ok (.invokevirtual 223, 3) := by decide +kernel
theorem dX9_hangUp_44 : decode cX9_hangUp 44 = .ok (.ireturn, 1) := by decide +kernel
theorem dX9_pass_0 : decode cX9_pass 0 = .ok (.iload_n 1, 1) := by decide +kernel
theorem dX9_pass_1 : decode cX9_pass 1 = .ok (.iconst 1, 1) := by decide +kernel
theorem dX9_pass_2 : decode cX9_pass 2 = .ok (.sipush 2000, 3) := by decide +kernel
theorem dX9_pass_5 : decode cX9_pass 5 = .ok (.invokestatic 85, 3) := by decide +kernel
theorem dX9_pass_8 : decode cX9_pass 8 = .ok (.aload_n 0, 1) := by decide +kernel
theorem dX9_pass_9 : decode cX9_pass 9 = .ok (.getfield 74, 3) := by decide +kernel
theorem dX9_pass_12 : decode cX9_pass 12 = .ok (.iload_n 1, 1) := by decide +kernel
theorem dX9_pass_13 : decode cX9_pass 13 = .ok (.iadd, 1) := by decide +kernel
theorem dX9_pass_14 : decode cX9_pass 14 = .ok (.sipush 20000, 3) := by decide +kernel
theorem dX9_pass_17 : decode cX9_pass 17 = .ok (.if_icmp .le 13, 3) := by decide +kernel
theorem dX9_pass_20 : decode cX9_pass 20 = .ok (.new 93, 3) := by decide +kernel
theorem dX9_pass_23 : decode cX9_pass 23 = .ok (.dup, 1) := by decide +kernel
theorem dX9_pass_24 : decode cX9_pass 24 = .ok (.ldc 226, 2) := by decide +kernel
theorem dX9_pass_26 : decode cX9_pass 26 = .ok (.invokespecial 97, 3) := by decide +kernel
theorem dX9_pass_29 : decode cX9_pass 29 = .ok (.athrow, 1) := by decide +kernel
theorem dX9_pass_30 : decode cX9_pass 30 = .ok (.aload_n 0, 1) := by decide +kernel
theorem dX9_pass_31 : decode cX9_pass 31 = .ok (.getfield 74, 3) := by decide +kernel
theorem dX9_pass_34 : decode cX9_pass 34 = .ok (.iload_n 1, 1) := by decide +kernel
theorem dX9_pass_35 : decode cX9_pass 35 = .ok (.iadd, 1) := by decide +kernel
theorem dX9_pass_36 : decode cX9_pass 36 = .ok (.istore_n 2, 1) := by decide +kernel
theorem dX9_pass_37 : decode cX9_pass 37 = .ok (.iconst 0, 1) := by decide +kernel
theorem dX9_pass_38 : decode cX9_pass 38 = .ok (.istore_n 3, 1) := by decide +kernel
theorem dX9_pass_39 : decode cX9_pass 39 = .ok (.iconst 0, 1) := by decide +kernel
theorem dX9_pass_40 : decode cX9_pass 40 = .ok (.istore 4, 2) := by decide +kernel
theorem dX9_pass_42 : decode cX9_pass 42 = .ok (.iload 4, 2) := by decide +kernel
theorem dX9_pass_44 : decode cX9_pass 44 = .ok (.aload_n 0, 1) := by decide +kernel
theorem dX9_pass_45 : decode cX9_pass 45 = .ok (.getfield 63, 3) := by decide +kernel
theorem dX9_pass_48 : decode cX9_pass 48 = .ok (.getfield 228, 3) := by decide +kernel
theorem dX9_pass_51 : decode cX9_pass 51 = .ok (.if_icmp .ge 31, 3) := by decide +kernel
theorem dX9_pass_54 : decode cX9_pass 54 = .ok (.aload_n 0, 1) := by decide +kernel
theorem dX9_pass_55 : decode cX9_pass 55 = .ok (.getfield 63, 3) := by decide +kernel
theorem dX9_pass_58 : decode cX9_pass 58 = .ok (.iload 4, 2) := by decide +kernel
theorem dX9_pass_60 : decode cX9_pass 60 = .ok (.invokevirtual 214, 3) := by decide +kernel
theorem dX9_pass_63 : decode cX9_pass 63 = .ok (.ifCond .eq 13, 3) := by decide +kernel
theorem dX9_pass_66 : decode cX9_pass 66 = .ok (.iload_n 3, 1) := by decide +kernel
theorem dX9_pass_67 : decode cX9_pass 67 = .ok (.aload_n 0, 1) := by decide +kernel
theorem dX9_pass_68 : decode cX9_pass 68 = .ok (.iload 4, 2) := by decide +kernel
theorem dX9_pass_70 : decode cX9_pass 70 = .ok (.iload_n 2, 1) := by decide +kernel
theorem dX9_pass_71 : decode cX9_pass 71 = .ok (.invokevirtual 231, 3) := by decide +kernel
theorem dX9_pass_74 : decode cX9_pass 74 = .ok (.iadd, 1) := by decide +kernel
theorem dX9_pass_75 : decode cX9_pass 75 = .ok (.istore_n 3, 1) := by decide +kernel
theorem dX9_pass_76 : decode cX9_pass 76 = .ok (.iinc 4 1, 3) := by decide +kernel
theorem dX9_pass_79 : decode cX9_pass 79 = .ok (.goto (-37), 3) := by decide +kernel
theorem dX9_pass_82 : decode cX9_pass 82 = .ok (.aload_n 0, 1) := by decide +kernel
theorem dX9_pass_83 : decode cX9_pass 83 = .ok (.iload_n 2, 1) := by decide +kernel
theorem dX9_pass_84 : decode cX9_pass 84 = .ok (.putfield 74, 3) := by decide +kernel
theorem dX9_pass_87 : decode cX9_pass 87 = .ok (.iload_n 3, 1) := by decide +kernel
theorem dX9_pass_88 : decode cX9_pass 88 = .ok (.ireturn, 1) := by decide +kernel
theorem dX9_second_0 : decode cX9_second 0 = .ok (.aload_n 0, 1) := by decide +kernel
theorem dX9_second_1 : decode cX9_second 1 = .ok (.getfield 74, 3) := by decide +kernel
theorem dX9_second_4 : decode cX9_second 4 = .ok (.ireturn, 1) := by decide +kernel
theorem dX9_isDear_0 : decode cX9_isDear 0 = .ok (.aload_n 0, 1) := by decide +kernel
theorem dX9_isDear_1 : decode cX9_isDear 1 = .ok (.getfield 74, 3) := by decide +kernel
theorem dX9_isDear_4 : decode cX9_isDear 4 = .ok (.sipush 1440, 3) := by decide +kernel
theorem dX9_isDear_7 : decode cX9_isDear 7 = .ok (.irem, 1) := by decide +kernel
theorem dX9_isDear_8 : decode cX9_isDear 8 = .ok (.istore_n 1, 1) := by decide +kernel
theorem dX9_isDear_9 : decode cX9_isDear 9 = .ok (.iload_n 1, 1) := by decide +kernel
theorem dX9_isDear_10 : decode cX9_isDear 10 = .ok (.sipush 480, 3) := by decide +kernel
theorem dX9_isDear_13 : decode cX9_isDear 13 = .ok (.if_icmp .lt 14, 3) := by decide +kernel
theorem dX9_isDear_16 : decode cX9_isDear 16 = .ok (.iload_n 1, 1) := by decide +kernel
theorem dX9_isDear_17 : decode cX9_isDear 17 = .ok (.sipush 1200, 3) := by decide +kernel
theorem dX9_isDear_20 : decode cX9_isDear 20 = .ok (.if_icmp .ge 7, 3) := by decide +kernel
theorem dX9_isDear_23 : decode cX9_isDear 23 = .ok (.iconst 1, 1) := by decide +kernel
theorem dX9_isDear_24 : decode cX9_isDear 24 = .ok (.goto 4, 3) := by decide +kernel
theorem dX9_isDear_27 : decode cX9_isDear 27 = .ok (.iconst 0, 1) := by decide +kernel
theorem dX9_isDear_28 : decode cX9_isDear 28 = .ok (.ireturn, 1) := by decide +kernel
theorem dX9_carrierOf_0 : decode cX9_carrierOf 0 = .ok (.iload_n 1, 1) := by decide +kernel
theorem dX9_carrierOf_1 : decode cX9_carrierOf 1 = .ok (.invokestatic 126, 3) := by decide +kernel
theorem dX9_carrierOf_4 : decode cX9_carrierOf 4 = .ok (.aload_n 0, 1) := by decide +kernel
theorem dX9_carrierOf_5 : decode cX9_carrierOf 5 = .ok (.getfield 12, 3) := by decide +kernel
theorem dX9_carrierOf_8 : decode cX9_carrierOf 8 = .ok (.getfield 129, 3) := by decide +kernel
theorem dX9_carrierOf_11 : decode cX9_carrierOf 11 = .ok (.iload_n 1, 1) := by decide +kernel
theorem dX9_carrierOf_12 : decode cX9_carrierOf 12 = .ok (.invokevirtual 111, 3) := by decide +kernel
theorem dX9_carrierOf_15 : decode cX9_carrierOf 15 = .ok (.ireturn, 1) := by decide +kernel
theorem dX9_carrierThen_0 : decode cX9_carrierThen 0 = .ok (.iload_n 1, 1) := by decide +kernel
theorem dX9_carrierThen_1 : decode cX9_carrierThen 1 = .ok (.invokestatic 126, 3) := by decide +kernel
theorem dX9_carrierThen_4 : decode cX9_carrierThen 4 = .ok (.iload_n 2, 1) := by decide +kernel
theorem dX9_carrierThen_5 : decode cX9_carrierThen 5 = .ok (.iconst 0, 1) := by decide +kernel
theorem dX9_carrierThen_6 : decode cX9_carrierThen 6 = .ok (.aload_n 0, 1) := by decide +kernel
theorem dX9_carrierThen_7 : decode cX9_carrierThen 7 = .ok (.getfield 74, 3) := by decide +kernel
theorem dX9_carrierThen_10 : decode cX9_carrierThen 10 = .ok (.invokestatic 85, 3) := by decide +kernel
theorem dX9_carrierThen_13 : decode cX9_carrierThen 13 = .ok (.aload_n 0, 1) := by decide +kernel
theorem dX9_carrierThen_14 : decode cX9_carrierThen 14 = .ok (.getfield 42, 3) := by decide +kernel
theorem dX9_carrierThen_17 : decode cX9_carrierThen 17 = .ok (.iload_n 1, 1) := by decide +kernel
theorem dX9_carrierThen_18 : decode cX9_carrierThen 18 = .ok (.iload_n 2, 1) := by decide +kernel
theorem dX9_carrierThen_19 : decode cX9_carrierThen 19 = .ok (.invokevirtual 234, 3) := by decide +kernel
theorem dX9_carrierThen_22 : decode cX9_carrierThen 22 = .ok (.ireturn, 1) := by decide +kernel
theorem dX9_ownerOf_0 : decode cX9_ownerOf 0 = .ok (.iload_n 1, 1) := by decide +kernel
theorem dX9_ownerOf_1 : decode cX9_ownerOf 1 = .ok (.invokestatic 126, 3) := by decide +kernel
theorem dX9_ownerOf_4 : decode cX9_ownerOf 4 = .ok (.aload_n 0, 1) := by decide +kernel
theorem dX9_ownerOf_5 : decode cX9_ownerOf 5 = .ok (.getfield 12, 3) := by decide +kernel
theorem dX9_ownerOf_8 : decode cX9_ownerOf 8 = .ok (.getfield 154, 3) := by decide +kernel
theorem dX9_ownerOf_11 : decode cX9_ownerOf 11 = .ok (.iload_n 1, 1) := by decide +kernel
theorem dX9_ownerOf_12 : decode cX9_ownerOf 12 = .ok (.invokevirtual 111, 3) := by decide +kernel
theorem dX9_ownerOf_15 : decode cX9_ownerOf 15 = .ok (.ireturn, 1) := by decide +kernel
theorem dX9_believed_0 : decode cX9_believed 0 = .ok (.iload_n 1, 1) := by decide +kernel
theorem dX9_believed_1 : decode cX9_believed 1 = .ok (.invokestatic 81, 3) := by decide +kernel
theorem dX9_believed_4 : decode cX9_believed 4 = .ok (.iload_n 2, 1) := by decide +kernel
theorem dX9_believed_5 : decode cX9_believed 5 = .ok (.invokestatic 126, 3) := by decide +kernel
theorem dX9_believed_8 : decode cX9_believed 8 = .ok (.aload_n 0, 1) := by decide +kernel
theorem dX9_believed_9 : decode cX9_believed 9 = .ok (.getfield 42, 3) := by decide +kernel
theorem dX9_believed_12 : decode cX9_believed 12 = .ok (.iload_n 1, 1) := by decide +kernel
theorem dX9_believed_13 : decode cX9_believed 13 = .ok (.iload_n 2, 1) := by decide +kernel
theorem dX9_believed_14 : decode cX9_believed 14 = .ok (.aload_n 0, 1) := by decide +kernel
theorem dX9_believed_15 : decode cX9_believed 15 = .ok (.getfield 74, 3) := by decide +kernel
theorem dX9_believed_18 : decode cX9_believed 18 = .ok (.invokevirtual 237, 3) := by decide +kernel
theorem dX9_believed_21 : decode cX9_believed 21 = .ok (.ireturn, 1) := by decide +kernel
theorem dX9_debt_0 : decode cX9_debt 0 = .ok (.iload_n 1, 1) := by decide +kernel
theorem dX9_debt_1 : decode cX9_debt 1 = .ok (.invokestatic 126, 3) := by decide +kernel
theorem dX9_debt_4 : decode cX9_debt 4 = .ok (.aload_n 0, 1) := by decide +kernel
theorem dX9_debt_5 : decode cX9_debt 5 = .ok (.getfield 12, 3) := by decide +kernel
theorem dX9_debt_8 : decode cX9_debt 8 = .ok (.getfield 131, 3) := by decide +kernel
theorem dX9_debt_11 : decode cX9_debt 11 = .ok (.iload_n 1, 1) := by decide +kernel
theorem dX9_debt_12 : decode cX9_debt 12 = .ok (.invokevirtual 111, 3) := by decide +kernel
theorem dX9_debt_15 : decode cX9_debt 15 = .ok (.ireturn, 1) := by decide +kernel
theorem dX9_debtAnew_0 : decode cX9_debtAnew 0 = .ok (.iload_n 1, 1) := by decide +kernel
theorem dX9_debtAnew_1 : decode cX9_debtAnew 1 = .ok (.invokestatic 126, 3) := by decide +kernel
theorem dX9_debtAnew_4 : decode cX9_debtAnew 4 = .ok (.iconst 0, 1) := by decide +kernel
theorem dX9_debtAnew_5 : decode cX9_debtAnew 5 = .ok (.istore_n 2, 1) := by decide +kernel
theorem dX9_debtAnew_6 : decode cX9_debtAnew 6 = .ok (.iconst 0, 1) := by decide +kernel
theorem dX9_debtAnew_7 : decode cX9_debtAnew 7 = .ok (.istore_n 3, 1) := by decide +kernel
theorem dX9_debtAnew_8 : decode cX9_debtAnew 8 = .ok (.iload_n 3, 1) := by decide +kernel
theorem dX9_debtAnew_9 : decode cX9_debtAnew 9 = .ok (.aload_n 0, 1) := by decide +kernel
theorem dX9_debtAnew_10 : decode cX9_debtAnew 10 = .ok (.getfield 63, 3) := by decide +kernel
theorem dX9_debtAnew_13 : decode cX9_debtAnew 13 = .ok (.getfield 228, 3) := by decide +kernel
theorem dX9_debtAnew_16 : decode cX9_debtAnew 16 = .ok (.if_icmp .ge 34, 3) := by decide +kernel
theorem dX9_debtAnew_19 : decode cX9_debtAnew 19 = .ok (.aload_n 0, 1) := by decide +kernel
theorem dX9_debtAnew_20 : decode cX9_debtAnew 20 = .ok (.getfield 63, 3) := by decide +kernel
theorem dX9_debtAnew_23 : decode cX9_debtAnew 23 = .ok (.getfield 241, 3) := by decide +kernel
theorem dX9_debtAnew_26 : decode cX9_debtAnew 26 = .ok (.iload_n 3, 1) := by decide +kernel
theorem dX9_debtAnew_27 : decode cX9_debtAnew 27 = .ok (.invokevirtual 111, 3) := by decide +kernel
theorem dX9_debtAnew_30 : decode cX9_debtAnew 30 = .ok (.iload_n 1, 1) := by decide +kernel
theorem dX9_debtAnew_31 : decode cX9_debtAnew 31 = .ok (.if_icmp .ne 13, 3) := by decide +kernel
theorem dX9_debtAnew_34 : decode cX9_debtAnew 34 = .ok (.iload_n 2, 1) := by decide +kernel
theorem dX9_debtAnew_35 : decode cX9_debtAnew 35 = .ok (.aload_n 0, 1) := by decide +kernel
theorem dX9_debtAnew_36 : decode cX9_debtAnew 36 = .ok (.iload_n 3, 1) := by decide +kernel
theorem dX9_debtAnew_37 : decode cX9_debtAnew 37 = .ok (.iconst (-1), 1) := by decide +kernel
theorem dX9_debtAnew_38 : decode cX9_debtAnew 38 = .ok (.iconst (-1), 1) := by decide +kernel
theorem dX9_debtAnew_39 : decode cX9_debtAnew 39 = .ok (.invokevirtual 244, 3) := by decide +kernel
theorem dX9_debtAnew_42 : decode cX9_debtAnew 42 = .ok (.iadd, 1) := by decide +kernel
theorem dX9_debtAnew_43 : decode cX9_debtAnew 43 = .ok (.istore_n 2, 1) := by decide +kernel
theorem dX9_debtAnew_44 : decode cX9_debtAnew 44 = .ok (.iinc 3 1, 3) := by decide +kernel
theorem dX9_debtAnew_47 : decode cX9_debtAnew 47 = .ok (.goto (-39), 3) := by decide +kernel
theorem dX9_debtAnew_50 : decode cX9_debtAnew 50 = .ok (.iload_n 2, 1) := by decide +kernel
theorem dX9_debtAnew_51 : decode cX9_debtAnew 51 = .ok (.aload_n 0, 1) := by decide +kernel
theorem dX9_debtAnew_52 : decode cX9_debtAnew 52 = .ok (.getfield 12, 3) := by decide +kernel
theorem dX9_debtAnew_55 : decode cX9_debtAnew 55 = .ok (.getfield 247, 3) := by decide +kernel
theorem dX9_debtAnew_58 : decode cX9_debtAnew 58 = .ok (.iload_n 1, 1) := by decide +kernel
theorem dX9_debtAnew_59 : decode cX9_debtAnew 59 = .ok (.invokevirtual 111, 3) := by decide +kernel
theorem dX9_debtAnew_62 : decode cX9_debtAnew 62 = .ok (.isub, 1) := by decide +kernel
theorem dX9_debtAnew_63 : decode cX9_debtAnew 63 = .ok (.ireturn, 1) := by decide +kernel
theorem dX9_bondOf_0 : decode cX9_bondOf 0 = .ok (.iload_n 1, 1) := by decide +kernel
theorem dX9_bondOf_1 : decode cX9_bondOf 1 = .ok (.invokestatic 126, 3) := by decide +kernel
theorem dX9_bondOf_4 : decode cX9_bondOf 4 = .ok (.aload_n 0, 1) := by decide +kernel
theorem dX9_bondOf_5 : decode cX9_bondOf 5 = .ok (.getfield 12, 3) := by decide +kernel
theorem dX9_bondOf_8 : decode cX9_bondOf 8 = .ok (.getfield 136, 3) := by decide +kernel
theorem dX9_bondOf_11 : decode cX9_bondOf 11 = .ok (.iload_n 1, 1) := by decide +kernel
theorem dX9_bondOf_12 : decode cX9_bondOf 12 = .ok (.invokevirtual 111, 3) := by decide +kernel
theorem dX9_bondOf_15 : decode cX9_bondOf 15 = .ok (.ireturn, 1) := by decide +kernel
theorem dX9_isBarred_0 : decode cX9_isBarred 0 = .ok (.iload_n 1, 1) := by decide +kernel
theorem dX9_isBarred_1 : decode cX9_isBarred 1 = .ok (.invokestatic 126, 3) := by decide +kernel
theorem dX9_isBarred_4 : decode cX9_isBarred 4 = .ok (.aload_n 0, 1) := by decide +kernel
theorem dX9_isBarred_5 : decode cX9_isBarred 5 = .ok (.getfield 12, 3) := by decide +kernel
theorem dX9_isBarred_8 : decode cX9_isBarred 8 = .ok (.getfield 179, 3) := by decide +kernel
theorem dX9_isBarred_11 : decode cX9_isBarred 11 = .ok (.iload_n 1, 1) := by decide +kernel
theorem dX9_isBarred_12 : decode cX9_isBarred 12 = .ok (.invokevirtual 111, 3) := by decide +kernel
theorem dX9_isBarred_15 : decode cX9_isBarred 15 = .ok (.ifCond .eq 7, 3) := by decide +kernel
theorem dX9_isBarred_18 : decode cX9_isBarred 18 = .ok (.iconst 1, 1) := by decide +kernel
theorem dX9_isBarred_19 : decode cX9_isBarred 19 = .ok (.goto 4, 3) := by decide +kernel
theorem dX9_isBarred_22 : decode cX9_isBarred 22 = .ok (.iconst 0, 1) := by decide +kernel
theorem dX9_isBarred_23 : decode cX9_isBarred 23 = .ok (.ireturn, 1) := by decide +kernel
theorem dX9_callOf_0 : decode cX9_callOf 0 = .ok (.iload_n 1, 1) := by decide +kernel
theorem dX9_callOf_1 : decode cX9_callOf 1 = .ok (.invokestatic 126, 3) := by decide +kernel
theorem dX9_callOf_4 : decode cX9_callOf 4 = .ok (.aload_n 0, 1) := by decide +kernel
theorem dX9_callOf_5 : decode cX9_callOf 5 = .ok (.getfield 12, 3) := by decide +kernel
theorem dX9_callOf_8 : decode cX9_callOf 8 = .ok (.getfield 182, 3) := by decide +kernel
theorem dX9_callOf_11 : decode cX9_callOf 11 = .ok (.iload_n 1, 1) := by decide +kernel
theorem dX9_callOf_12 : decode cX9_callOf 12 = .ok (.invokevirtual 111, 3) := by decide +kernel
theorem dX9_callOf_15 : decode cX9_callOf 15 = .ok (.ireturn, 1) := by decide +kernel
theorem dX9_free_0 : decode cX9_free 0 = .ok (.iload_n 1, 1) := by decide +kernel
theorem dX9_free_1 : decode cX9_free 1 = .ok (.invokestatic 81, 3) := by decide +kernel
theorem dX9_free_4 : decode cX9_free 4 = .ok (.iload_n 2, 1) := by decide +kernel
theorem dX9_free_5 : decode cX9_free 5 = .ok (.invokestatic 81, 3) := by decide +kernel
theorem dX9_free_8 : decode cX9_free 8 = .ok (.iload_n 1, 1) := by decide +kernel
theorem dX9_free_9 : decode cX9_free 9 = .ok (.iload_n 2, 1) := by decide +kernel
theorem dX9_free_10 : decode cX9_free 10 = .ok (.if_icmp .ne 7, 3) := by decide +kernel
theorem dX9_free_13 : decode cX9_free 13 = .ok (.iconst 0, 1) := by decide +kernel
theorem dX9_free_14 : decode cX9_free 14 = .ok (.goto 12, 3) := by decide +kernel
theorem dX9_free_17 : decode cX9_free 17 = .ok (.aload_n 0, 1) := by decide +kernel
theorem dX9_free_18 : decode cX9_free 18 = .ok (.getfield 35, 3) := by decide +kernel
theorem dX9_free_21 : decode cX9_free 21 = .ok (.iload_n 1, 1) := by decide +kernel
theorem dX9_free_22 : decode cX9_free 22 = .ok (.iload_n 2, 1) := by decide +kernel
theorem dX9_free_23 : decode cX9_free 23 = .ok (.invokevirtual 250, 3) := by decide +kernel
theorem dX9_free_26 : decode cX9_free 26 = .ok (.ireturn, 1) := by decide +kernel
theorem dX9_route_0 : decode cX9_route 0 = .ok (.iload_n 1, 1) := by decide +kernel
theorem dX9_route_1 : decode cX9_route 1 = .ok (.invokestatic 126, 3) := by decide +kernel
theorem dX9_route_4 : decode cX9_route 4 = .ok (.iload_n 2, 1) := by decide +kernel
theorem dX9_route_5 : decode cX9_route 5 = .ok (.invokestatic 126, 3) := by decide +kernel
theorem dX9_route_8 : decode cX9_route 8 = .ok (.iload_n 1, 1) := by decide +kernel
theorem dX9_route_9 : decode cX9_route 9 = .ok (.iload_n 2, 1) := by decide +kernel
theorem dX9_route_10 : decode cX9_route 10 = .ok (.invokestatic 118, 3) := by decide +kernel
theorem dX9_route_13 : decode cX9_route 13 = .ok (.aload_n 0, 1) := by decide +kernel
theorem dX9_route_14 : decode cX9_route 14 = .ok (.iload_n 1, 1) := by decide +kernel
theorem dX9_route_15 : decode cX9_route 15 = .ok (.iload_n 2, 1) := by decide +kernel
theorem dX9_route_16 : decode cX9_route 16 = .ok (.invokevirtual 191, 3) := by decide +kernel
theorem dX9_route_19 : decode cX9_route 19 = .ok (.ifCond .eq 15, 3) := by decide +kernel
theorem dX9_route_22 : decode cX9_route 22 = .ok (.aload_n 0, 1) := by decide +kernel
theorem dX9_route_23 : decode cX9_route 23 = .ok (.getfield 70, 3) := by decide +kernel
theorem dX9_route_26 : decode cX9_route 26 = .ok (.getfield 198, 3) := by decide +kernel
theorem dX9_route_29 : decode cX9_route 29 = .ok (.iconst 1, 1) := by decide +kernel
theorem dX9_route_30 : decode cX9_route 30 = .ok (.isub, 1) := by decide +kernel
theorem dX9_route_31 : decode cX9_route 31 = .ok (.goto 4, 3) := by decide +kernel
theorem dX9_route_34 : decode cX9_route 34 = .ok (.iconst (-1), 1) := by decide +kernel
theorem dX9_route_35 : decode cX9_route 35 = .ok (.ireturn, 1) := by decide +kernel
theorem dX9_calls_0 : decode cX9_calls 0 = .ok (.aload_n 0, 1) := by decide +kernel
theorem dX9_calls_1 : decode cX9_calls 1 = .ok (.getfield 63, 3) := by decide +kernel
theorem dX9_calls_4 : decode cX9_calls 4 = .ok (.getfield 228, 3) := by decide +kernel
theorem dX9_calls_7 : decode cX9_calls 7 = .ok (.ireturn, 1) := by decide +kernel
theorem dX9_lost_0 : decode cX9_lost 0 = .ok (.aload_n 0, 1) := by decide +kernel
theorem dX9_lost_1 : decode cX9_lost 1 = .ok (.getfield 78, 3) := by decide +kernel
theorem dX9_lost_4 : decode cX9_lost 4 = .ok (.ireturn, 1) := by decide +kernel
theorem dX9_state_0 : decode cX9_state 0 = .ok (.aload_n 0, 1) := by decide +kernel
theorem dX9_state_1 : decode cX9_state 1 = .ok (.iload_n 1, 1) := by decide +kernel
theorem dX9_state_2 : decode cX9_state 2 = .ok (.invokevirtual 211, 3) := by decide +kernel
theorem dX9_state_5 : decode cX9_state 5 = .ok (.aload_n 0, 1) := by decide +kernel
theorem dX9_state_6 : decode cX9_state 6 = .ok (.getfield 63, 3) := by decide +kernel
theorem dX9_state_9 : decode cX9_state 9 = .ok (.getfield 253, 3) := by decide +kernel
theorem dX9_state_12 : decode cX9_state 12 = .ok (.iload_n 1, 1) := by decide +kernel
theorem dX9_state_13 : decode cX9_state 13 = .ok (.invokevirtual 111, 3) := by decide +kernel
theorem dX9_state_16 : decode cX9_state 16 = .ok (.ireturn, 1) := by decide +kernel
theorem dX9_trunks_0 : decode cX9_trunks 0 = .ok (.aload_n 0, 1) := by decide +kernel
theorem dX9_trunks_1 : decode cX9_trunks 1 = .ok (.iload_n 1, 1) := by decide +kernel
theorem dX9_trunks_2 : decode cX9_trunks 2 = .ok (.invokevirtual 211, 3) := by decide +kernel
theorem dX9_trunks_5 : decode cX9_trunks 5 = .ok (.aload_n 0, 1) := by decide +kernel
theorem dX9_trunks_6 : decode cX9_trunks 6 = .ok (.getfield 63, 3) := by decide +kernel
theorem dX9_trunks_9 : decode cX9_trunks 9 = .ok (.getfield 256, 3) := by decide +kernel
theorem dX9_trunks_12 : decode cX9_trunks 12 = .ok (.iload_n 1, 1) := by decide +kernel
theorem dX9_trunks_13 : decode cX9_trunks 13 = .ok (.invokevirtual 111, 3) := by decide +kernel
theorem dX9_trunks_16 : decode cX9_trunks 16 = .ok (.iconst 1, 1) := by decide +kernel
theorem dX9_trunks_17 : decode cX9_trunks 17 = .ok (.isub, 1) := by decide +kernel
theorem dX9_trunks_18 : decode cX9_trunks 18 = .ok (.ireturn, 1) := by decide +kernel
theorem dX9_carrierAt_0 : decode cX9_carrierAt 0 = .ok (.aload_n 0, 1) := by decide +kernel
theorem dX9_carrierAt_1 : decode cX9_carrierAt 1 = .ok (.iload_n 1, 1) := by decide +kernel
theorem dX9_carrierAt_2 : decode cX9_carrierAt 2 = .ok (.invokevirtual 211, 3) := by decide +kernel
theorem dX9_carrierAt_5 : decode cX9_carrierAt 5 = .ok (.iload_n 2, 1) := by decide +kernel
theorem dX9_carrierAt_6 : decode cX9_carrierAt 6 = .ok (.ifCond .lt 18, 3) := by decide +kernel
theorem dX9_carrierAt_9 : decode cX9_carrierAt 9 = .ok (.iload_n 2, 1) := by decide +kernel
theorem dX9_carrierAt_10 : decode cX9_carrierAt 10 = .ok (.aload_n 0, 1) := by decide +kernel
theorem dX9_carrierAt_11 : decode cX9_carrierAt 11 = .ok (.getfield 63, 3) := by decide +kernel
theorem dX9_carrierAt_14 : decode cX9_carrierAt 14 = .ok (.getfield 256, 3) := by decide +kernel
theorem dX9_carrierAt_17 : decode cX9_carrierAt 17 = .ok (.iload_n 1, 1) := by decide +kernel
theorem dX9_carrierAt_18 : decode cX9_carrierAt 18 = .ok (.invokevirtual 111, 3) := by decide +kernel
theorem dX9_carrierAt_21 : decode cX9_carrierAt 21 = .ok (.if_icmp .lt 14, 3) := by decide +kernel
theorem dX9_carrierAt_24 : decode cX9_carrierAt 24 = .ok (.new 259, 3) := by decide +kernel
theorem dX9_carrierAt_27 : decode cX9_carrierAt 27 = .ok (.dup, 1) := by decide +kernel
theorem dX9_carrierAt_28 : decode cX9_carrierAt 28 = .ok (.ldc_w 261, 3) := by decide +kernel
theorem dX9_carrierAt_31 : decode cX9_carrierAt 31 = .ok (.invokespecial 263, 3) := by decide +kernel
theorem dX9_carrierAt_34 : decode cX9_carrierAt 34 = .ok (.athrow, 1) := by decide +kernel
theorem dX9_carrierAt_35 : decode cX9_carrierAt 35 = .ok (.aload_n 0, 1) := by decide +kernel
theorem dX9_carrierAt_36 : decode cX9_carrierAt 36 = .ok (.getfield 63, 3) := by decide +kernel
theorem dX9_carrierAt_39 : decode cX9_carrierAt 39 = .ok (.iload_n 1, 1) := by decide +kernel
theorem dX9_carrierAt_40 : decode cX9_carrierAt 40 = .ok (.iload_n 2, 1) := by decide +kernel
theorem dX9_carrierAt_41 : decode cX9_carrierAt 41 = .ok (.invokevirtual 264, 3) := by decide +kernel
theorem dX9_carrierAt_44 : decode cX9_carrierAt 44 = .ok (.ireturn, 1) := by decide +kernel
theorem dX9_seconds_0 : decode cX9_seconds 0 = .ok (.aload_n 0, 1) := by decide +kernel
theorem dX9_seconds_1 : decode cX9_seconds 1 = .ok (.iload_n 1, 1) := by decide +kernel
theorem dX9_seconds_2 : decode cX9_seconds 2 = .ok (.invokevirtual 211, 3) := by decide +kernel
theorem dX9_seconds_5 : decode cX9_seconds 5 = .ok (.aload_n 0, 1) := by decide +kernel
theorem dX9_seconds_6 : decode cX9_seconds 6 = .ok (.getfield 63, 3) := by decide +kernel
theorem dX9_seconds_9 : decode cX9_seconds 9 = .ok (.iload_n 1, 1) := by decide +kernel
theorem dX9_seconds_10 : decode cX9_seconds 10 = .ok (.aload_n 0, 1) := by decide +kernel
theorem dX9_seconds_11 : decode cX9_seconds 11 = .ok (.getfield 74, 3) := by decide +kernel
theorem dX9_seconds_14 : decode cX9_seconds 14 = .ok (.invokevirtual 223, 3) := by decide +kernel
theorem dX9_seconds_17 : decode cX9_seconds 17 = .ok (.ireturn, 1) := by decide +kernel
theorem dX9_charged_0 : decode cX9_charged 0 = .ok (.aload_n 0, 1) := by decide +kernel
theorem dX9_charged_1 : decode cX9_charged 1 = .ok (.iload_n 1, 1) := by decide +kernel
theorem dX9_charged_2 : decode cX9_charged 2 = .ok (.invokevirtual 211, 3) := by decide +kernel
theorem dX9_charged_5 : decode cX9_charged 5 = .ok (.aload_n 0, 1) := by decide +kernel
theorem dX9_charged_6 : decode cX9_charged 6 = .ok (.getfield 63, 3) := by decide +kernel
theorem dX9_charged_9 : decode cX9_charged 9 = .ok (.getfield 267, 3) := by decide +kernel
theorem dX9_charged_12 : decode cX9_charged 12 = .ok (.iload_n 1, 1) := by decide +kernel
theorem dX9_charged_13 : decode cX9_charged 13 = .ok (.invokevirtual 111, 3) := by decide +kernel
theorem dX9_charged_16 : decode cX9_charged 16 = .ok (.ireturn, 1) := by decide +kernel
theorem dX9_chargedAnew_0 : decode cX9_chargedAnew 0 = .ok (.aload_n 0, 1) := by decide +kernel
theorem dX9_chargedAnew_1 : decode cX9_chargedAnew 1 = .ok (.iload_n 1, 1) := by decide +kernel
theorem dX9_chargedAnew_2 : decode cX9_chargedAnew 2 = .ok (.invokevirtual 211, 3) := by decide +kernel
theorem dX9_chargedAnew_5 : decode cX9_chargedAnew 5 = .ok (.aload_n 0, 1) := by decide +kernel
theorem dX9_chargedAnew_6 : decode cX9_chargedAnew 6 = .ok (.iload_n 1, 1) := by decide +kernel
theorem dX9_chargedAnew_7 : decode cX9_chargedAnew 7 = .ok (.iconst (-1), 1) := by decide +kernel
theorem dX9_chargedAnew_8 : decode cX9_chargedAnew 8 = .ok (.iconst (-1), 1) := by decide +kernel
theorem dX9_chargedAnew_9 : decode cX9_chargedAnew 9 = .ok (.invokevirtual 244, 3) := by decide +kernel
theorem dX9_chargedAnew_12 : decode cX9_chargedAnew 12 = .ok (.ireturn, 1) := by decide +kernel
theorem dX9_coins_0 : decode cX9_coins 0 = .ok (.iload_n 1, 1) := by decide +kernel
theorem dX9_coins_1 : decode cX9_coins 1 = .ok (.invokestatic 81, 3) := by decide +kernel
theorem dX9_coins_4 : decode cX9_coins 4 = .ok (.aload_n 0, 1) := by decide +kernel
theorem dX9_coins_5 : decode cX9_coins 5 = .ok (.getfield 19, 3) := by decide +kernel
theorem dX9_coins_8 : decode cX9_coins 8 = .ok (.getfield 270, 3) := by decide +kernel
theorem dX9_coins_11 : decode cX9_coins 11 = .ok (.iload_n 1, 1) := by decide +kernel
theorem dX9_coins_12 : decode cX9_coins 12 = .ok (.invokevirtual 111, 3) := by decide +kernel
theorem dX9_coins_15 : decode cX9_coins 15 = .ok (.ireturn, 1) := by decide +kernel
theorem dX9_earned_0 : decode cX9_earned 0 = .ok (.iload_n 1, 1) := by decide +kernel
theorem dX9_earned_1 : decode cX9_earned 1 = .ok (.invokestatic 81, 3) := by decide +kernel
theorem dX9_earned_4 : decode cX9_earned 4 = .ok (.aload_n 0, 1) := by decide +kernel
theorem dX9_earned_5 : decode cX9_earned 5 = .ok (.getfield 19, 3) := by decide +kernel
theorem dX9_earned_8 : decode cX9_earned 8 = .ok (.getfield 273, 3) := by decide +kernel
theorem dX9_earned_11 : decode cX9_earned 11 = .ok (.iload_n 1, 1) := by decide +kernel
theorem dX9_earned_12 : decode cX9_earned 12 = .ok (.invokevirtual 111, 3) := by decide +kernel
theorem dX9_earned_15 : decode cX9_earned 15 = .ok (.ireturn, 1) := by decide +kernel
theorem dX9_earnedAnew_0 : decode cX9_earnedAnew 0 = .ok (.iload_n 1, 1) := by decide +kernel
theorem dX9_earnedAnew_1 : decode cX9_earnedAnew 1 = .ok (.invokestatic 81, 3) := by decide +kernel
theorem dX9_earnedAnew_4 : decode cX9_earnedAnew 4 = .ok (.iconst 0, 1) := by decide +kernel
theorem dX9_earnedAnew_5 : decode cX9_earnedAnew 5 = .ok (.istore_n 2, 1) := by decide +kernel
theorem dX9_earnedAnew_6 : decode cX9_earnedAnew 6 = .ok (.iconst 0, 1) := by decide +kernel
theorem dX9_earnedAnew_7 : decode cX9_earnedAnew 7 = .ok (.istore_n 3, 1) := by decide +kernel
theorem dX9_earnedAnew_8 : decode cX9_earnedAnew 8 = .ok (.iload_n 3, 1) := by decide +kernel
theorem dX9_earnedAnew_9 : decode cX9_earnedAnew 9 = .ok (.aload_n 0, 1) := by decide +kernel
theorem dX9_earnedAnew_10 : decode cX9_earnedAnew 10 = .ok (.getfield 63, 3) := by decide +kernel
theorem dX9_earnedAnew_13 : decode cX9_earnedAnew 13 = .ok (.getfield 228, 3) := by decide +kernel
theorem dX9_earnedAnew_16 : decode cX9_earnedAnew 16 = .ok (.if_icmp .ge 19, 3) := by decide +kernel
theorem dX9_earnedAnew_19 : decode cX9_earnedAnew 19 = .ok (.iload_n 2, 1) := by decide +kernel
theorem dX9_earnedAnew_20 : decode cX9_earnedAnew 20 = .ok (.aload_n 0, 1) := by decide +kernel
theorem dX9_earnedAnew_21 : decode cX9_earnedAnew 21 = .ok (.iload_n 3, 1) := by decide +kernel
theorem dX9_earnedAnew_22 : decode cX9_earnedAnew 22 = .ok (.iload_n 1, 1) := by decide +kernel
theorem dX9_earnedAnew_23 : decode cX9_earnedAnew 23 = .ok (.iconst (-1), 1) := by decide +kernel
theorem dX9_earnedAnew_24 : decode cX9_earnedAnew 24 = .ok (.invokevirtual 244, 3) := by decide +kernel
theorem dX9_earnedAnew_27 : decode cX9_earnedAnew 27 = .ok (.iadd, 1) := by decide +kernel
theorem dX9_earnedAnew_28 : decode cX9_earnedAnew 28 = .ok (.istore_n 2, 1) := by decide +kernel
theorem dX9_earnedAnew_29 : decode cX9_earnedAnew 29 = .ok (.iinc 3 1, 3) := by decide +kernel
theorem dX9_earnedAnew_32 : decode cX9_earnedAnew 32 = .ok (.goto (-24), 3) := by decide +kernel
theorem dX9_earnedAnew_35 : decode cX9_earnedAnew 35 = .ok (.iload_n 2, 1) := by decide +kernel
theorem dX9_earnedAnew_36 : decode cX9_earnedAnew 36 = .ok (.ireturn, 1) := by decide +kernel
theorem dX9_spent_0 : decode cX9_spent 0 = .ok (.iload_n 1, 1) := by decide +kernel
theorem dX9_spent_1 : decode cX9_spent 1 = .ok (.invokestatic 151, 3) := by decide +kernel
theorem dX9_spent_4 : decode cX9_spent 4 = .ok (.aload_n 0, 1) := by decide +kernel
theorem dX9_spent_5 : decode cX9_spent 5 = .ok (.getfield 28, 3) := by decide +kernel
theorem dX9_spent_8 : decode cX9_spent 8 = .ok (.iload_n 1, 1) := by decide +kernel
theorem dX9_spent_9 : decode cX9_spent 9 = .ok (.invokevirtual 111, 3) := by decide +kernel
theorem dX9_spent_12 : decode cX9_spent 12 = .ok (.ireturn, 1) := by decide +kernel
theorem dX9_spentAnew_0 : decode cX9_spentAnew 0 = .ok (.iload_n 1, 1) := by decide +kernel
theorem dX9_spentAnew_1 : decode cX9_spentAnew 1 = .ok (.invokestatic 151, 3) := by decide +kernel
theorem dX9_spentAnew_4 : decode cX9_spentAnew 4 = .ok (.iconst 0, 1) := by decide +kernel
theorem dX9_spentAnew_5 : decode cX9_spentAnew 5 = .ok (.istore_n 2, 1) := by decide +kernel
theorem dX9_spentAnew_6 : decode cX9_spentAnew 6 = .ok (.iconst 0, 1) := by decide +kernel
theorem dX9_spentAnew_7 : decode cX9_spentAnew 7 = .ok (.istore_n 3, 1) := by decide +kernel
theorem dX9_spentAnew_8 : decode cX9_spentAnew 8 = .ok (.iload_n 3, 1) := by decide +kernel
theorem dX9_spentAnew_9 : decode cX9_spentAnew 9 = .ok (.aload_n 0, 1) := by decide +kernel
theorem dX9_spentAnew_10 : decode cX9_spentAnew 10 = .ok (.getfield 63, 3) := by decide +kernel
theorem dX9_spentAnew_13 : decode cX9_spentAnew 13 = .ok (.getfield 228, 3) := by decide +kernel
theorem dX9_spentAnew_16 : decode cX9_spentAnew 16 = .ok (.if_icmp .ge 19, 3) := by decide +kernel
theorem dX9_spentAnew_19 : decode cX9_spentAnew 19 = .ok (.iload_n 2, 1) := by decide +kernel
theorem dX9_spentAnew_20 : decode cX9_spentAnew 20 = .ok (.aload_n 0, 1) := by decide +kernel
theorem dX9_spentAnew_21 : decode cX9_spentAnew 21 = .ok (.iload_n 3, 1) := by decide +kernel
theorem dX9_spentAnew_22 : decode cX9_spentAnew 22 = .ok (.iconst (-1), 1) := by decide +kernel
theorem dX9_spentAnew_23 : decode cX9_spentAnew 23 = .ok (.iload_n 1, 1) := by decide +kernel
theorem dX9_spentAnew_24 : decode cX9_spentAnew 24 = .ok (.invokevirtual 244, 3) := by decide +kernel
theorem dX9_spentAnew_27 : decode cX9_spentAnew 27 = .ok (.iadd, 1) := by decide +kernel
theorem dX9_spentAnew_28 : decode cX9_spentAnew 28 = .ok (.istore_n 2, 1) := by decide +kernel
theorem dX9_spentAnew_29 : decode cX9_spentAnew 29 = .ok (.iinc 3 1, 3) := by decide +kernel
theorem dX9_spentAnew_32 : decode cX9_spentAnew 32 = .ok (.goto (-24), 3) := by decide +kernel
theorem dX9_spentAnew_35 : decode cX9_spentAnew 35 = .ok (.iload_n 2, 1) := by decide +kernel
theorem dX9_spentAnew_36 : decode cX9_spentAnew 36 = .ok (.ireturn, 1) := by decide +kernel
theorem dX9_losses_0 : decode cX9_losses 0 = .ok (.iload_n 1, 1) := by decide +kernel
theorem dX9_losses_1 : decode cX9_losses 1 = .ok (.invokestatic 81, 3) := by decide +kernel
theorem dX9_losses_4 : decode cX9_losses 4 = .ok (.aload_n 0, 1) := by decide +kernel
theorem dX9_losses_5 : decode cX9_losses 5 = .ok (.getfield 19, 3) := by decide +kernel
theorem dX9_losses_8 : decode cX9_losses 8 = .ok (.getfield 276, 3) := by decide +kernel
theorem dX9_losses_11 : decode cX9_losses 11 = .ok (.iload_n 1, 1) := by decide +kernel
theorem dX9_losses_12 : decode cX9_losses 12 = .ok (.invokevirtual 111, 3) := by decide +kernel
theorem dX9_losses_15 : decode cX9_losses 15 = .ok (.ireturn, 1) := by decide +kernel
theorem dX9_needCarrier_0 : decode cX9_needCarrier 0 = .ok (.iload_n 0, 1) := by decide +kernel
theorem dX9_needCarrier_1 : decode cX9_needCarrier 1 = .ok (.ifCond .lt 8, 3) := by decide +kernel
theorem dX9_needCarrier_4 : decode cX9_needCarrier 4 = .ok (.iload_n 0, 1) := by decide +kernel
theorem dX9_needCarrier_5 : decode cX9_needCarrier 5 = .ok (.iconst 5, 1) := by decide +kernel
theorem dX9_needCarrier_6 : decode cX9_needCarrier 6 = .ok (.if_icmp .lt 14, 3) := by decide +kernel
theorem dX9_needCarrier_9 : decode cX9_needCarrier 9 = .ok (.new 259, 3) := by decide +kernel
theorem dX9_needCarrier_12 : decode cX9_needCarrier 12 = .ok (.dup, 1) := by decide +kernel
theorem dX9_needCarrier_13 : decode cX9_needCarrier 13 = .ok (.ldc_w 279, 3) := by decide +kernel
theorem dX9_needCarrier_16 : decode cX9_needCarrier 16 = .ok (.invokespecial 263, 3) := by decide +kernel
theorem dX9_needCarrier_19 : decode cX9_needCarrier 19 = .ok (.athrow, 1) := by decide +kernel
theorem dX9_needCarrier_20 : decode cX9_needCarrier 20 = .ok (.return_, 1) := by decide +kernel
theorem dX9_needPerson_0 : decode cX9_needPerson 0 = .ok (.iload_n 0, 1) := by decide +kernel
theorem dX9_needPerson_1 : decode cX9_needPerson 1 = .ok (.ifCond .lt 9, 3) := by decide +kernel
theorem dX9_needPerson_4 : decode cX9_needPerson 4 = .ok (.iload_n 0, 1) := by decide +kernel
theorem dX9_needPerson_5 : decode cX9_needPerson 5 = .ok (.bipush 6, 2) := by decide +kernel
theorem dX9_needPerson_7 : decode cX9_needPerson 7 = .ok (.if_icmp .lt 14, 3) := by decide +kernel
theorem dX9_needPerson_10 : decode cX9_needPerson 10 = .ok (.new 259, 3) := by decide +kernel
theorem dX9_needPerson_13 : decode cX9_needPerson 13 = .ok (.dup, 1) := by decide +kernel
theorem dX9_needPerson_14 : decode cX9_needPerson 14 = .ok (.ldc_w 281, 3) := by decide +kernel
theorem dX9_needPerson_17 : decode cX9_needPerson 17 = .ok (.invokespecial 263, 3) := by decide +kernel
theorem dX9_needPerson_20 : decode cX9_needPerson 20 = .ok (.athrow, 1) := by decide +kernel
theorem dX9_needPerson_21 : decode cX9_needPerson 21 = .ok (.return_, 1) := by decide +kernel
theorem dX9_needNumber_0 : decode cX9_needNumber 0 = .ok (.iload_n 0, 1) := by decide +kernel
theorem dX9_needNumber_1 : decode cX9_needNumber 1 = .ok (.ifCond .lt 9, 3) := by decide +kernel
theorem dX9_needNumber_4 : decode cX9_needNumber 4 = .ok (.iload_n 0, 1) := by decide +kernel
theorem dX9_needNumber_5 : decode cX9_needNumber 5 = .ok (.bipush 12, 2) := by decide +kernel
theorem dX9_needNumber_7 : decode cX9_needNumber 7 = .ok (.if_icmp .lt 14, 3) := by decide +kernel
theorem dX9_needNumber_10 : decode cX9_needNumber 10 = .ok (.new 259, 3) := by decide +kernel
theorem dX9_needNumber_13 : decode cX9_needNumber 13 = .ok (.dup, 1) := by decide +kernel
theorem dX9_needNumber_14 : decode cX9_needNumber 14 = .ok (.ldc_w 283, 3) := by decide +kernel
theorem dX9_needNumber_17 : decode cX9_needNumber 17 = .ok (.invokespecial 263, 3) := by decide +kernel
theorem dX9_needNumber_20 : decode cX9_needNumber 20 = .ok (.athrow, 1) := by decide +kernel
theorem dX9_needNumber_21 : decode cX9_needNumber 21 = .ok (.return_, 1) := by decide +kernel
theorem dX9_needCall_0 : decode cX9_needCall 0 = .ok (.iload_n 1, 1) := by decide +kernel
theorem dX9_needCall_1 : decode cX9_needCall 1 = .ok (.ifCond .lt 14, 3) := by decide +kernel
theorem dX9_needCall_4 : decode cX9_needCall 4 = .ok (.iload_n 1, 1) := by decide +kernel
theorem dX9_needCall_5 : decode cX9_needCall 5 = .ok (.aload_n 0, 1) := by decide +kernel
theorem dX9_needCall_6 : decode cX9_needCall 6 = .ok (.getfield 63, 3) := by decide +kernel
theorem dX9_needCall_9 : decode cX9_needCall 9 = .ok (.getfield 228, 3) := by decide +kernel
theorem dX9_needCall_12 : decode cX9_needCall 12 = .ok (.if_icmp .lt 14, 3) := by decide +kernel
theorem dX9_needCall_15 : decode cX9_needCall 15 = .ok (.new 259, 3) := by decide +kernel
theorem dX9_needCall_18 : decode cX9_needCall 18 = .ok (.dup, 1) := by decide +kernel
theorem dX9_needCall_19 : decode cX9_needCall 19 = .ok (.ldc_w 285, 3) := by decide +kernel
theorem dX9_needCall_22 : decode cX9_needCall 22 = .ok (.invokespecial 263, 3) := by decide +kernel
theorem dX9_needCall_25 : decode cX9_needCall 25 = .ok (.athrow, 1) := by decide +kernel
theorem dX9_needCall_26 : decode cX9_needCall 26 = .ok (.return_, 1) := by decide +kernel
theorem dX9_needDifferent_0 : decode cX9_needDifferent 0 = .ok (.iload_n 0, 1) := by decide +kernel
theorem dX9_needDifferent_1 : decode cX9_needDifferent 1 = .ok (.iload_n 1, 1) := by decide +kernel
theorem dX9_needDifferent_2 : decode cX9_needDifferent 2 = .ok (.if_icmp .ne 14, 3) := by decide +kernel
theorem dX9_needDifferent_5 : decode cX9_needDifferent 5 = .ok (.new 287, 3) := by decide +kernel
theorem dX9_needDifferent_8 : decode cX9_needDifferent 8 = .ok (.dup, 1) := by decide +kernel
theorem dX9_needDifferent_9 : decode cX9_needDifferent 9 = .ok (.ldc_w 289, 3) := by decide +kernel
theorem dX9_needDifferent_12 : decode cX9_needDifferent 12 = .ok (.invokespecial 291, 3) := by decide +kernel
theorem dX9_needDifferent_15 : decode cX9_needDifferent 15 = .ok (.athrow, 1) := by decide +kernel
theorem dX9_needDifferent_16 : decode cX9_needDifferent 16 = .ok (.return_, 1) := by decide +kernel
theorem dX9_needWithin_0 : decode cX9_needWithin 0 = .ok (.iload_n 0, 1) := by decide +kernel
theorem dX9_needWithin_1 : decode cX9_needWithin 1 = .ok (.iload_n 1, 1) := by decide +kernel
theorem dX9_needWithin_2 : decode cX9_needWithin 2 = .ok (.if_icmp .lt 8, 3) := by decide +kernel
theorem dX9_needWithin_5 : decode cX9_needWithin 5 = .ok (.iload_n 0, 1) := by decide +kernel
theorem dX9_needWithin_6 : decode cX9_needWithin 6 = .ok (.iload_n 2, 1) := by decide +kernel
theorem dX9_needWithin_7 : decode cX9_needWithin 7 = .ok (.if_icmp .le 14, 3) := by decide +kernel
theorem dX9_needWithin_10 : decode cX9_needWithin 10 = .ok (.new 287, 3) := by decide +kernel
theorem dX9_needWithin_13 : decode cX9_needWithin 13 = .ok (.dup, 1) := by decide +kernel
theorem dX9_needWithin_14 : decode cX9_needWithin 14 = .ok (.ldc_w 292, 3) := by decide +kernel
theorem dX9_needWithin_17 : decode cX9_needWithin 17 = .ok (.invokespecial 291, 3) := by decide +kernel
theorem dX9_needWithin_20 : decode cX9_needWithin 20 = .ok (.athrow, 1) := by decide +kernel
theorem dX9_needWithin_21 : decode cX9_needWithin 21 = .ok (.return_, 1) := by decide +kernel
theorem dX9_settle_0 : decode cX9_settle 0 = .ok (.aload_n 0, 1) := by decide +kernel
theorem dX9_settle_1 : decode cX9_settle 1 = .ok (.getfield 12, 3) := by decide +kernel
theorem dX9_settle_4 : decode cX9_settle 4 = .ok (.getfield 131, 3) := by decide +kernel
theorem dX9_settle_7 : decode cX9_settle 7 = .ok (.iload_n 1, 1) := by decide +kernel
theorem dX9_settle_8 : decode cX9_settle 8 = .ok (.iload_n 2, 1) := by decide +kernel
theorem dX9_settle_9 : decode cX9_settle 9 = .ok (.ineg, 1) := by decide +kernel
theorem dX9_settle_10 : decode cX9_settle 10 = .ok (.invokevirtual 177, 3) := by decide +kernel
theorem dX9_settle_13 : decode cX9_settle 13 = .ok (.aload_n 0, 1) := by decide +kernel
theorem dX9_settle_14 : decode cX9_settle 14 = .ok (.getfield 12, 3) := by decide +kernel
theorem dX9_settle_17 : decode cX9_settle 17 = .ok (.getfield 247, 3) := by decide +kernel
theorem dX9_settle_20 : decode cX9_settle 20 = .ok (.iload_n 1, 1) := by decide +kernel
theorem dX9_settle_21 : decode cX9_settle 21 = .ok (.iload_n 2, 1) := by decide +kernel
theorem dX9_settle_22 : decode cX9_settle 22 = .ok (.invokevirtual 177, 3) := by decide +kernel
theorem dX9_settle_25 : decode cX9_settle 25 = .ok (.aload_n 0, 1) := by decide +kernel
theorem dX9_settle_26 : decode cX9_settle 26 = .ok (.getfield 19, 3) := by decide +kernel
theorem dX9_settle_29 : decode cX9_settle 29 = .ok (.getfield 270, 3) := by decide +kernel
theorem dX9_settle_32 : decode cX9_settle 32 = .ok (.aload_n 0, 1) := by decide +kernel
theorem dX9_settle_33 : decode cX9_settle 33 = .ok (.getfield 12, 3) := by decide +kernel
theorem dX9_settle_36 : decode cX9_settle 36 = .ok (.getfield 129, 3) := by decide +kernel
theorem dX9_settle_39 : decode cX9_settle 39 = .ok (.iload_n 1, 1) := by decide +kernel
theorem dX9_settle_40 : decode cX9_settle 40 = .ok (.invokevirtual 111, 3) := by decide +kernel
theorem dX9_settle_43 : decode cX9_settle 43 = .ok (.iload_n 2, 1) := by decide +kernel
theorem dX9_settle_44 : decode cX9_settle 44 = .ok (.invokevirtual 177, 3) := by decide +kernel
theorem dX9_settle_47 : decode cX9_settle 47 = .ok (.aload_n 0, 1) := by decide +kernel
theorem dX9_settle_48 : decode cX9_settle 48 = .ok (.getfield 12, 3) := by decide +kernel
theorem dX9_settle_51 : decode cX9_settle 51 = .ok (.getfield 131, 3) := by decide +kernel
theorem dX9_settle_54 : decode cX9_settle 54 = .ok (.iload_n 1, 1) := by decide +kernel
theorem dX9_settle_55 : decode cX9_settle 55 = .ok (.invokevirtual 111, 3) := by decide +kernel
theorem dX9_settle_58 : decode cX9_settle 58 = .ok (.istore_n 3, 1) := by decide +kernel
theorem dX9_settle_59 : decode cX9_settle 59 = .ok (.iload_n 3, 1) := by decide +kernel
theorem dX9_settle_60 : decode cX9_settle 60 = .ok (.ifCond .ne 15, 3) := by decide +kernel
theorem dX9_settle_63 : decode cX9_settle 63 = .ok (.aload_n 0, 1) := by decide +kernel
theorem dX9_settle_64 : decode cX9_settle 64 = .ok (.getfield 12, 3) := by decide +kernel
theorem dX9_settle_67 : decode cX9_settle 67 = .ok (.getfield 179, 3) := by decide +kernel
theorem dX9_settle_70 : decode cX9_settle 70 = .ok (.iload_n 1, 1) := by decide +kernel
theorem dX9_settle_71 : decode cX9_settle 71 = .ok (.iconst 0, 1) := by decide +kernel
theorem dX9_settle_72 : decode cX9_settle 72 = .ok (.invokevirtual 115, 3) := by decide +kernel
theorem dX9_settle_75 : decode cX9_settle 75 = .ok (.iload_n 3, 1) := by decide +kernel
theorem dX9_settle_76 : decode cX9_settle 76 = .ok (.ireturn, 1) := by decide +kernel
theorem dX9_findWay_0 : decode cX9_findWay 0 = .ok (.aload_n 0, 1) := by decide +kernel
theorem dX9_findWay_1 : decode cX9_findWay 1 = .ok (.getfield 12, 3) := by decide +kernel
theorem dX9_findWay_4 : decode cX9_findWay 4 = .ok (.getfield 129, 3) := by decide +kernel
theorem dX9_findWay_7 : decode cX9_findWay 7 = .ok (.iload_n 2, 1) := by decide +kernel
theorem dX9_findWay_8 : decode cX9_findWay 8 = .ok (.invokevirtual 111, 3) := by decide +kernel
theorem dX9_findWay_11 : decode cX9_findWay 11 = .ok (.istore_n 3, 1) := by decide +kernel
theorem dX9_findWay_12 : decode cX9_findWay 12 = .ok (.aload_n 0, 1) := by decide +kernel
theorem dX9_findWay_13 : decode cX9_findWay 13 = .ok (.getfield 70, 3) := by decide +kernel
theorem dX9_findWay_16 : decode cX9_findWay 16 = .ok (.aload_n 0, 1) := by decide +kernel
theorem dX9_findWay_17 : decode cX9_findWay 17 = .ok (.getfield 12, 3) := by decide +kernel
theorem dX9_findWay_20 : decode cX9_findWay 20 = .ok (.getfield 129, 3) := by decide +kernel
theorem dX9_findWay_23 : decode cX9_findWay 23 = .ok (.iload_n 1, 1) := by decide +kernel
theorem dX9_findWay_24 : decode cX9_findWay 24 = .ok (.invokevirtual 111, 3) := by decide +kernel
theorem dX9_findWay_27 : decode cX9_findWay 27 = .ok (.invokevirtual 294, 3) := by decide +kernel
theorem dX9_findWay_30 : decode cX9_findWay 30 = .ok (.iconst 0, 1) := by decide +kernel
theorem dX9_findWay_31 : decode cX9_findWay 31 = .ok (.istore 4, 2) := by decide +kernel
theorem dX9_findWay_33 : decode cX9_findWay 33 = .ok (.iload 4, 2) := by decide +kernel
theorem dX9_findWay_35 : decode cX9_findWay 35 = .ok (.iconst 5, 1) := by decide +kernel
theorem dX9_findWay_36 : decode cX9_findWay 36 = .ok (.if_icmp .ge 83, 3) := by decide +kernel
theorem dX9_findWay_39 : decode cX9_findWay 39 = .ok (.aload_n 0, 1) := by decide +kernel
theorem dX9_findWay_40 : decode cX9_findWay 40 = .ok (.getfield 70, 3) := by decide +kernel
theorem dX9_findWay_43 : decode cX9_findWay 43 = .ok (.invokevirtual 201, 3) := by decide +kernel
theorem dX9_findWay_46 : decode cX9_findWay 46 = .ok (.iload_n 3, 1) := by decide +kernel
theorem dX9_findWay_47 : decode cX9_findWay 47 = .ok (.if_icmp .eq 72, 3) := by decide +kernel
theorem dX9_findWay_50 : decode cX9_findWay 50 = .ok (.aload_n 0, 1) := by decide +kernel
theorem dX9_findWay_51 : decode cX9_findWay 51 = .ok (.getfield 42, 3) := by decide +kernel
theorem dX9_findWay_54 : decode cX9_findWay 54 = .ok (.aload_n 0, 1) := by decide +kernel
theorem dX9_findWay_55 : decode cX9_findWay 55 = .ok (.getfield 70, 3) := by decide +kernel
theorem dX9_findWay_58 : decode cX9_findWay 58 = .ok (.invokevirtual 201, 3) := by decide +kernel
theorem dX9_findWay_61 : decode cX9_findWay 61 = .ok (.iload_n 2, 1) := by decide +kernel
theorem dX9_findWay_62 : decode cX9_findWay 62 = .ok (.aload_n 0, 1) := by decide +kernel
theorem dX9_findWay_63 : decode cX9_findWay 63 = .ok (.getfield 74, 3) := by decide +kernel
theorem dX9_findWay_66 : decode cX9_findWay 66 = .ok (.invokevirtual 237, 3) := by decide +kernel
theorem dX9_findWay_69 : decode cX9_findWay 69 = .ok (.istore 5, 2) := by decide +kernel
theorem dX9_findWay_71 : decode cX9_findWay 71 = .ok (.aload_n 0, 1) := by decide +kernel
theorem dX9_findWay_72 : decode cX9_findWay 72 = .ok (.getfield 70, 3) := by decide +kernel
theorem dX9_findWay_75 : decode cX9_findWay 75 = .ok (.iload 5, 2) := by decide +kernel
theorem dX9_findWay_77 : decode cX9_findWay 77 = .ok (.invokevirtual 297, 3) := by decide +kernel
theorem dX9_findWay_80 : decode cX9_findWay 80 = .ok (.ifCond .ne 22, 3) := by decide +kernel
theorem dX9_findWay_83 : decode cX9_findWay 83 = .ok (.aload_n 0, 1) := by decide +kernel
theorem dX9_findWay_84 : decode cX9_findWay 84 = .ok (.getfield 35, 3) := by decide +kernel
theorem dX9_findWay_87 : decode cX9_findWay 87 = .ok (.aload_n 0, 1) := by decide +kernel
theorem dX9_findWay_88 : decode cX9_findWay 88 = .ok (.getfield 70, 3) := by decide +kernel
theorem dX9_findWay_91 : decode cX9_findWay 91 = .ok (.invokevirtual 201, 3) := by decide +kernel
theorem dX9_findWay_94 : decode cX9_findWay 94 = .ok (.iload 5, 2) := by decide +kernel
theorem dX9_findWay_96 : decode cX9_findWay 96 = .ok (.invokevirtual 250, 3) := by decide +kernel
theorem dX9_findWay_99 : decode cX9_findWay 99 = .ok (.ifCond .gt 5, 3) := by decide +kernel
theorem dX9_findWay_102 : decode cX9_findWay 102 = .ok (.iconst 0, 1) := by decide +kernel
theorem dX9_findWay_103 : decode cX9_findWay 103 = .ok (.ireturn, 1) := by decide +kernel
theorem dX9_findWay_104 : decode cX9_findWay 104 = .ok (.aload_n 0, 1) := by decide +kernel
theorem dX9_findWay_105 : decode cX9_findWay 105 = .ok (.getfield 70, 3) := by decide +kernel
theorem dX9_findWay_108 : decode cX9_findWay 108 = .ok (.iload 5, 2) := by decide +kernel
theorem dX9_findWay_110 : decode cX9_findWay 110 = .ok (.invokevirtual 300, 3) := by decide +kernel
theorem dX9_findWay_113 : decode cX9_findWay 113 = .ok (.iinc 4 1, 3) := by decide +kernel
theorem dX9_findWay_116 : decode cX9_findWay 116 = .ok (.goto (-83), 3) := by decide +kernel
theorem dX9_findWay_119 : decode cX9_findWay 119 = .ok (.aload_n 0, 1) := by decide +kernel
theorem dX9_findWay_120 : decode cX9_findWay 120 = .ok (.getfield 70, 3) := by decide +kernel
theorem dX9_findWay_123 : decode cX9_findWay 123 = .ok (.invokevirtual 201, 3) := by decide +kernel
theorem dX9_findWay_126 : decode cX9_findWay 126 = .ok (.iload_n 3, 1) := by decide +kernel
theorem dX9_findWay_127 : decode cX9_findWay 127 = .ok (.if_icmp .ne 7, 3) := by decide +kernel
theorem dX9_findWay_130 : decode cX9_findWay 130 = .ok (.iconst 1, 1) := by decide +kernel
theorem dX9_findWay_131 : decode cX9_findWay 131 = .ok (.goto 4, 3) := by decide +kernel
theorem dX9_findWay_134 : decode cX9_findWay 134 = .ok (.iconst 0, 1) := by decide +kernel
theorem dX9_findWay_135 : decode cX9_findWay 135 = .ok (.ireturn, 1) := by decide +kernel
theorem dX9_beginTalk_0 : decode cX9_beginTalk 0 = .ok (.aload_n 0, 1) := by decide +kernel
theorem dX9_beginTalk_1 : decode cX9_beginTalk 1 = .ok (.getfield 63, 3) := by decide +kernel
theorem dX9_beginTalk_4 : decode cX9_beginTalk 4 = .ok (.iload_n 1, 1) := by decide +kernel
theorem dX9_beginTalk_5 : decode cX9_beginTalk 5 = .ok (.iload_n 2, 1) := by decide +kernel
theorem dX9_beginTalk_6 : decode cX9_beginTalk 6 = .ok (.aload_n 0, 1) := by decide +kernel
theorem dX9_beginTalk_7 : decode cX9_beginTalk 7 = .ok (.getfield 74, 3) := by decide +kernel
theorem dX9_beginTalk_10 : decode cX9_beginTalk 10 = .ok (.aload_n 0, 1) := by decide +kernel
theorem dX9_beginTalk_11 : decode cX9_beginTalk 11 = .ok (.getfield 70, 3) := by decide +kernel
theorem dX9_beginTalk_14 : decode cX9_beginTalk 14 = .ok (.invokevirtual 303, 3) := by decide +kernel
theorem dX9_beginTalk_17 : decode cX9_beginTalk 17 = .ok (.istore_n 3, 1) := by decide +kernel
theorem dX9_beginTalk_18 : decode cX9_beginTalk 18 = .ok (.aload_n 0, 1) := by decide +kernel
theorem dX9_beginTalk_19 : decode cX9_beginTalk 19 = .ok (.iload_n 3, 1) := by decide +kernel
theorem dX9_beginTalk_20 : decode cX9_beginTalk 20 = .ok (.iconst 1, 1) := by decide +kernel
theorem dX9_beginTalk_21 : decode cX9_beginTalk 21 = .ok (.invokevirtual 306, 3) := by decide +kernel
theorem dX9_beginTalk_24 : decode cX9_beginTalk 24 = .ok (.aload_n 0, 1) := by decide +kernel
theorem dX9_beginTalk_25 : decode cX9_beginTalk 25 = .ok (.getfield 12, 3) := by decide +kernel
theorem dX9_beginTalk_28 : decode cX9_beginTalk 28 = .ok (.getfield 182, 3) := by decide +kernel
theorem dX9_beginTalk_31 : decode cX9_beginTalk 31 = .ok (.iload_n 1, 1) := by decide +kernel
theorem dX9_beginTalk_32 : decode cX9_beginTalk 32 = .ok (.iload_n 3, 1) := by decide +kernel
theorem dX9_beginTalk_33 : decode cX9_beginTalk 33 = .ok (.invokevirtual 115, 3) := by decide +kernel
theorem dX9_beginTalk_36 : decode cX9_beginTalk 36 = .ok (.aload_n 0, 1) := by decide +kernel
theorem dX9_beginTalk_37 : decode cX9_beginTalk 37 = .ok (.getfield 12, 3) := by decide +kernel
theorem dX9_beginTalk_40 : decode cX9_beginTalk 40 = .ok (.getfield 182, 3) := by decide +kernel
theorem dX9_beginTalk_43 : decode cX9_beginTalk 43 = .ok (.iload_n 2, 1) := by decide +kernel
theorem dX9_beginTalk_44 : decode cX9_beginTalk 44 = .ok (.iload_n 3, 1) := by decide +kernel
theorem dX9_beginTalk_45 : decode cX9_beginTalk 45 = .ok (.invokevirtual 115, 3) := by decide +kernel
theorem dX9_beginTalk_48 : decode cX9_beginTalk 48 = .ok (.iload_n 3, 1) := by decide +kernel
theorem dX9_beginTalk_49 : decode cX9_beginTalk 49 = .ok (.ireturn, 1) := by decide +kernel
theorem dX9_endTalk_0 : decode cX9_endTalk 0 = .ok (.aload_n 0, 1) := by decide +kernel
theorem dX9_endTalk_1 : decode cX9_endTalk 1 = .ok (.getfield 63, 3) := by decide +kernel
theorem dX9_endTalk_4 : decode cX9_endTalk 4 = .ok (.iload_n 1, 1) := by decide +kernel
theorem dX9_endTalk_5 : decode cX9_endTalk 5 = .ok (.aload_n 0, 1) := by decide +kernel
theorem dX9_endTalk_6 : decode cX9_endTalk 6 = .ok (.getfield 74, 3) := by decide +kernel
theorem dX9_endTalk_9 : decode cX9_endTalk 9 = .ok (.iload_n 2, 1) := by decide +kernel
theorem dX9_endTalk_10 : decode cX9_endTalk 10 = .ok (.invokevirtual 309, 3) := by decide +kernel
theorem dX9_endTalk_13 : decode cX9_endTalk 13 = .ok (.aload_n 0, 1) := by decide +kernel
theorem dX9_endTalk_14 : decode cX9_endTalk 14 = .ok (.iload_n 1, 1) := by decide +kernel
theorem dX9_endTalk_15 : decode cX9_endTalk 15 = .ok (.iconst (-1), 1) := by decide +kernel
theorem dX9_endTalk_16 : decode cX9_endTalk 16 = .ok (.invokevirtual 306, 3) := by decide +kernel
theorem dX9_endTalk_19 : decode cX9_endTalk 19 = .ok (.aload_n 0, 1) := by decide +kernel
theorem dX9_endTalk_20 : decode cX9_endTalk 20 = .ok (.getfield 12, 3) := by decide +kernel
theorem dX9_endTalk_23 : decode cX9_endTalk 23 = .ok (.getfield 182, 3) := by decide +kernel
theorem dX9_endTalk_26 : decode cX9_endTalk 26 = .ok (.aload_n 0, 1) := by decide +kernel
theorem dX9_endTalk_27 : decode cX9_endTalk 27 = .ok (.getfield 63, 3) := by decide +kernel
theorem dX9_endTalk_30 : decode cX9_endTalk 30 = .ok (.getfield 241, 3) := by decide +kernel
theorem dX9_endTalk_33 : decode cX9_endTalk 33 = .ok (.iload_n 1, 1) := by decide +kernel
theorem dX9_endTalk_34 : decode cX9_endTalk 34 = .ok (.invokevirtual 111, 3) := by decide +kernel
theorem dX9_endTalk_37 : decode cX9_endTalk 37 = .ok (.iconst (-1), 1) := by decide +kernel
theorem dX9_endTalk_38 : decode cX9_endTalk 38 = .ok (.invokevirtual 115, 3) := by decide +kernel
theorem dX9_endTalk_41 : decode cX9_endTalk 41 = .ok (.aload_n 0, 1) := by decide +kernel
theorem dX9_endTalk_42 : decode cX9_endTalk 42 = .ok (.getfield 12, 3) := by decide +kernel
theorem dX9_endTalk_45 : decode cX9_endTalk 45 = .ok (.getfield 182, 3) := by decide +kernel
theorem dX9_endTalk_48 : decode cX9_endTalk 48 = .ok (.aload_n 0, 1) := by decide +kernel
theorem dX9_endTalk_49 : decode cX9_endTalk 49 = .ok (.getfield 63, 3) := by decide +kernel
theorem dX9_endTalk_52 : decode cX9_endTalk 52 = .ok (.getfield 312, 3) := by decide +kernel
theorem dX9_endTalk_55 : decode cX9_endTalk 55 = .ok (.iload_n 1, 1) := by decide +kernel
theorem dX9_endTalk_56 : decode cX9_endTalk 56 = .ok (.invokevirtual 111, 3) := by decide +kernel
theorem dX9_endTalk_59 : decode cX9_endTalk 59 = .ok (.iconst (-1), 1) := by decide +kernel
theorem dX9_endTalk_60 : decode cX9_endTalk 60 = .ok (.invokevirtual 115, 3) := by decide +kernel
theorem dX9_endTalk_63 : decode cX9_endTalk 63 = .ok (.return_, 1) := by decide +kernel
theorem dX9_takeLines_0 : decode cX9_takeLines 0 = .ok (.aload_n 0, 1) := by decide +kernel
theorem dX9_takeLines_1 : decode cX9_takeLines 1 = .ok (.getfield 63, 3) := by decide +kernel
theorem dX9_takeLines_4 : decode cX9_takeLines 4 = .ok (.getfield 256, 3) := by decide +kernel
theorem dX9_takeLines_7 : decode cX9_takeLines 7 = .ok (.iload_n 1, 1) := by decide +kernel
theorem dX9_takeLines_8 : decode cX9_takeLines 8 = .ok (.invokevirtual 111, 3) := by decide +kernel
theorem dX9_takeLines_11 : decode cX9_takeLines 11 = .ok (.iconst 1, 1) := by decide +kernel
theorem dX9_takeLines_12 : decode cX9_takeLines 12 = .ok (.isub, 1) := by decide +kernel
theorem dX9_takeLines_13 : decode cX9_takeLines 13 = .ok (.istore_n 3, 1) := by decide +kernel
theorem dX9_takeLines_14 : decode cX9_takeLines 14 = .ok (.iconst 0, 1) := by decide +kernel
theorem dX9_takeLines_15 : decode cX9_takeLines 15 = .ok (.istore 4, 2) := by decide +kernel
theorem dX9_takeLines_17 : decode cX9_takeLines 17 = .ok (.iload 4, 2) := by decide +kernel
theorem dX9_takeLines_19 : decode cX9_takeLines 19 = .ok (.iload_n 3, 1) := by decide +kernel
theorem dX9_takeLines_20 : decode cX9_takeLines 20 = .ok (.if_icmp .ge 39, 3) := by decide +kernel
theorem dX9_takeLines_23 : decode cX9_takeLines 23 = .ok (.aload_n 0, 1) := by decide +kernel
theorem dX9_takeLines_24 : decode cX9_takeLines 24 = .ok (.getfield 35, 3) := by decide +kernel
theorem dX9_takeLines_27 : decode cX9_takeLines 27 = .ok (.aload_n 0, 1) := by decide +kernel
theorem dX9_takeLines_28 : decode cX9_takeLines 28 = .ok (.getfield 63, 3) := by decide +kernel
theorem dX9_takeLines_31 : decode cX9_takeLines 31 = .ok (.iload_n 1, 1) := by decide +kernel
theorem dX9_takeLines_32 : decode cX9_takeLines 32 = .ok (.iload 4, 2) := by decide +kernel
theorem dX9_takeLines_34 : decode cX9_takeLines 34 = .ok (.invokevirtual 264, 3) := by decide +kernel
theorem dX9_takeLines_37 : decode cX9_takeLines 37 = .ok (.aload_n 0, 1) := by decide +kernel
theorem dX9_takeLines_38 : decode cX9_takeLines 38 = .ok (.getfield 63, 3) := by decide +kernel
theorem dX9_takeLines_41 : decode cX9_takeLines 41 = .ok (.iload_n 1, 1) := by decide +kernel
theorem dX9_takeLines_42 : decode cX9_takeLines 42 = .ok (.iload 4, 2) := by decide +kernel
theorem dX9_takeLines_44 : decode cX9_takeLines 44 = .ok (.iconst 1, 1) := by decide +kernel
theorem dX9_takeLines_45 : decode cX9_takeLines 45 = .ok (.iadd, 1) := by decide +kernel
theorem dX9_takeLines_46 : decode cX9_takeLines 46 = .ok (.invokevirtual 264, 3) := by decide +kernel
theorem dX9_takeLines_49 : decode cX9_takeLines 49 = .ok (.iload_n 2, 1) := by decide +kernel
theorem dX9_takeLines_50 : decode cX9_takeLines 50 = .ok (.invokevirtual 315, 3) := by decide +kernel
theorem dX9_takeLines_53 : decode cX9_takeLines 53 = .ok (.iinc 4 1, 3) := by decide +kernel
theorem dX9_takeLines_56 : decode cX9_takeLines 56 = .ok (.goto (-39), 3) := by decide +kernel
theorem dX9_takeLines_59 : decode cX9_takeLines 59 = .ok (.return_, 1) := by decide +kernel
theorem dX9_loseTooMany_0 : decode cX9_loseTooMany 0 = .ok (.iconst 0, 1) := by decide +kernel
theorem dX9_loseTooMany_1 : decode cX9_loseTooMany 1 = .ok (.istore_n 3, 1) := by decide +kernel
theorem dX9_loseTooMany_2 : decode cX9_loseTooMany 2 = .ok (.aload_n 0, 1) := by decide +kernel
theorem dX9_loseTooMany_3 : decode cX9_loseTooMany 3 = .ok (.getfield 63, 3) := by decide +kernel
theorem dX9_loseTooMany_6 : decode cX9_loseTooMany 6 = .ok (.getfield 228, 3) := by decide +kernel
theorem dX9_loseTooMany_9 : decode cX9_loseTooMany 9 = .ok (.iconst 1, 1) := by decide +kernel
theorem dX9_loseTooMany_10 : decode cX9_loseTooMany 10 = .ok (.isub, 1) := by decide +kernel
theorem dX9_loseTooMany_11 : decode cX9_loseTooMany 11 = .ok (.istore 4, 2) := by decide +kernel
theorem dX9_loseTooMany_13 : decode cX9_loseTooMany 13 = .ok (.iload 4, 2) := by decide +kernel
theorem dX9_loseTooMany_15 : decode cX9_loseTooMany 15 = .ok (.ifCond .lt 150, 3) := by decide +kernel
theorem dX9_loseTooMany_18 : decode cX9_loseTooMany 18 = .ok (.aload_n 0, 1) := by decide +kernel
theorem dX9_loseTooMany_19 : decode cX9_loseTooMany 19 = .ok (.getfield 35, 3) := by decide +kernel
theorem dX9_loseTooMany_22 : decode cX9_loseTooMany 22 = .ok (.iload_n 1, 1) := by decide +kernel
theorem dX9_loseTooMany_23 : decode cX9_loseTooMany 23 = .ok (.iload_n 2, 1) := by decide +kernel
theorem dX9_loseTooMany_24 : decode cX9_loseTooMany 24 = .ok (.invokevirtual 250, 3) := by decide +kernel
theorem dX9_loseTooMany_27 : decode cX9_loseTooMany 27 = .ok (.ifCond .ge 138, 3) := by decide +kernel
theorem dX9_loseTooMany_30 : decode cX9_loseTooMany 30 = .ok (.aload_n 0, 1) := by decide +kernel
theorem dX9_loseTooMany_31 : decode cX9_loseTooMany 31 = .ok (.getfield 63, 3) := by decide +kernel
theorem dX9_loseTooMany_34 : decode cX9_loseTooMany 34 = .ok (.iload 4, 2) := by decide +kernel
theorem dX9_loseTooMany_36 : decode cX9_loseTooMany 36 = .ok (.iload_n 1, 1) := by decide +kernel
theorem dX9_loseTooMany_37 : decode cX9_loseTooMany 37 = .ok (.invokevirtual 318, 3) := by decide +kernel
theorem dX9_loseTooMany_40 : decode cX9_loseTooMany 40 = .ok (.istore 5, 2) := by decide +kernel
theorem dX9_loseTooMany_42 : decode cX9_loseTooMany 42 = .ok (.aload_n 0, 1) := by decide +kernel
theorem dX9_loseTooMany_43 : decode cX9_loseTooMany 43 = .ok (.getfield 63, 3) := by decide +kernel
theorem dX9_loseTooMany_46 : decode cX9_loseTooMany 46 = .ok (.iload 4, 2) := by decide +kernel
theorem dX9_loseTooMany_48 : decode cX9_loseTooMany 48 = .ok (.iload_n 2, 1) := by decide +kernel
theorem dX9_loseTooMany_49 : decode cX9_loseTooMany 49 = .ok (.invokevirtual 318, 3) := by decide +kernel
theorem dX9_loseTooMany_52 : decode cX9_loseTooMany 52 = .ok (.istore 6, 2) := by decide +kernel
theorem dX9_loseTooMany_54 : decode cX9_loseTooMany 54 = .ok (.iload 5, 2) := by decide +kernel
theorem dX9_loseTooMany_56 : decode cX9_loseTooMany 56 = .ok (.iload 6, 2) := by decide +kernel
theorem dX9_loseTooMany_58 : decode cX9_loseTooMany 58 = .ok (.isub, 1) := by decide +kernel
theorem dX9_loseTooMany_59 : decode cX9_loseTooMany 59 = .ok (.iconst 1, 1) := by decide +kernel
theorem dX9_loseTooMany_60 : decode cX9_loseTooMany 60 = .ok (.if_icmp .eq 12, 3) := by decide +kernel
theorem dX9_loseTooMany_63 : decode cX9_loseTooMany 63 = .ok (.iload 6, 2) := by decide +kernel
theorem dX9_loseTooMany_65 : decode cX9_loseTooMany 65 = .ok (.iload 5, 2) := by decide +kernel
theorem dX9_loseTooMany_67 : decode cX9_loseTooMany 67 = .ok (.isub, 1) := by decide +kernel
theorem dX9_loseTooMany_68 : decode cX9_loseTooMany 68 = .ok (.iconst 1, 1) := by decide +kernel
theorem dX9_loseTooMany_69 : decode cX9_loseTooMany 69 = .ok (.if_icmp .ne 7, 3) := by decide +kernel
theorem dX9_loseTooMany_72 : decode cX9_loseTooMany 72 = .ok (.iconst 1, 1) := by decide +kernel
theorem dX9_loseTooMany_73 : decode cX9_loseTooMany 73 = .ok (.goto 4, 3) := by decide +kernel
theorem dX9_loseTooMany_76 : decode cX9_loseTooMany 76 = .ok (.iconst 0, 1) := by decide +kernel
theorem dX9_loseTooMany_77 : decode cX9_loseTooMany 77 = .ok (.istore 7, 2) := by decide +kernel
theorem dX9_loseTooMany_79 : decode cX9_loseTooMany 79 = .ok (.aload_n 0, 1) := by decide +kernel
theorem dX9_loseTooMany_80 : decode cX9_loseTooMany 80 = .ok (.getfield 63, 3) := by decide +kernel
theorem dX9_loseTooMany_83 : decode cX9_loseTooMany 83 = .ok (.iload 4, 2) := by decide +kernel
theorem dX9_loseTooMany_85 : decode cX9_loseTooMany 85 = .ok (.invokevirtual 214, 3) := by decide +kernel
theorem dX9_loseTooMany_88 : decode cX9_loseTooMany 88 = .ok (.ifCond .eq 71, 3) := by decide +kernel
theorem dX9_loseTooMany_91 : decode cX9_loseTooMany 91 = .ok (.iload 5, 2) := by decide +kernel
theorem dX9_loseTooMany_93 : decode cX9_loseTooMany 93 = .ok (.iconst (-1), 1) := by decide +kernel
theorem dX9_loseTooMany_94 : decode cX9_loseTooMany 94 = .ok (.if_icmp .eq 65, 3) := by decide +kernel
theorem dX9_loseTooMany_97 : decode cX9_loseTooMany 97 = .ok (.iload 6, 2) := by decide +kernel
theorem dX9_loseTooMany_99 : decode cX9_loseTooMany 99 = .ok (.iconst (-1), 1) := by decide +kernel
theorem dX9_loseTooMany_100 : decode cX9_loseTooMany 100 = .ok (.if_icmp .eq 59, 3) := by decide +kernel
theorem dX9_loseTooMany_103 : decode cX9_loseTooMany 103 = .ok (.iload 7, 2) := by decide +kernel
theorem dX9_loseTooMany_105 : decode cX9_loseTooMany 105 = .ok (.ifCond .eq 54, 3) := by decide +kernel
theorem dX9_loseTooMany_108 : decode cX9_loseTooMany 108 = .ok (.aload_n 0, 1) := by decide +kernel
theorem dX9_loseTooMany_109 : decode cX9_loseTooMany 109 = .ok (.iload 4, 2) := by decide +kernel
theorem dX9_loseTooMany_111 : decode cX9_loseTooMany 111 = .ok (.iconst 2, 1) := by decide +kernel
theorem dX9_loseTooMany_112 : decode cX9_loseTooMany 112 = .ok (.invokevirtual 220, 3) := by decide +kernel
theorem dX9_loseTooMany_115 : decode cX9_loseTooMany 115 = .ok (.iload 5, 2) := by decide +kernel
theorem dX9_loseTooMany_117 : decode cX9_loseTooMany 117 = .ok (.iload 6, 2) := by decide +kernel
theorem dX9_loseTooMany_119 : decode cX9_loseTooMany 119 = .ok (.if_icmp .le 7, 3) := by decide +kernel
theorem dX9_loseTooMany_122 : decode cX9_loseTooMany 122 = .ok (.iconst 1, 1) := by decide +kernel
theorem dX9_loseTooMany_123 : decode cX9_loseTooMany 123 = .ok (.goto 4, 3) := by decide +kernel
theorem dX9_loseTooMany_126 : decode cX9_loseTooMany 126 = .ok (.iconst 0, 1) := by decide +kernel
theorem dX9_loseTooMany_127 : decode cX9_loseTooMany 127 = .ok (.istore 8, 2) := by decide +kernel
theorem dX9_loseTooMany_129 : decode cX9_loseTooMany 129 = .ok (.aload_n 0, 1) := by decide +kernel
theorem dX9_loseTooMany_130 : decode cX9_loseTooMany 130 = .ok (.getfield 19, 3) := by decide +kernel
theorem dX9_loseTooMany_133 : decode cX9_loseTooMany 133 = .ok (.iload 8, 2) := by decide +kernel
theorem dX9_loseTooMany_135 : decode cX9_loseTooMany 135 = .ok (.ifCond .eq 7, 3) := by decide +kernel
theorem dX9_loseTooMany_138 : decode cX9_loseTooMany 138 = .ok (.iload_n 1, 1) := by decide +kernel
theorem dX9_loseTooMany_139 : decode cX9_loseTooMany 139 = .ok (.goto 4, 3) := by decide +kernel
theorem dX9_loseTooMany_142 : decode cX9_loseTooMany 142 = .ok (.iload_n 2, 1) := by decide +kernel
theorem dX9_loseTooMany_143 : decode cX9_loseTooMany 143 = .ok (.iload 8, 2) := by decide +kernel
theorem dX9_loseTooMany_145 : decode cX9_loseTooMany 145 = .ok (.ifCond .eq 7, 3) := by decide +kernel
theorem dX9_loseTooMany_148 : decode cX9_loseTooMany 148 = .ok (.iload_n 2, 1) := by decide +kernel
theorem dX9_loseTooMany_149 : decode cX9_loseTooMany 149 = .ok (.goto 4, 3) := by decide +kernel
theorem dX9_loseTooMany_152 : decode cX9_loseTooMany 152 = .ok (.iload_n 1, 1) := by decide +kernel
theorem dX9_loseTooMany_153 : decode cX9_loseTooMany 153 = .ok (.invokevirtual 208, 3) := by decide +kernel
theorem dX9_loseTooMany_156 : decode cX9_loseTooMany 156 = .ok (.iinc 3 1, 3) := by decide +kernel
theorem dX9_loseTooMany_159 : decode cX9_loseTooMany 159 = .ok (.iinc 4 (-1), 3) := by decide +kernel
theorem dX9_loseTooMany_162 : decode cX9_loseTooMany 162 = .ok (.goto (-149), 3) := by decide +kernel
theorem dX9_loseTooMany_165 : decode cX9_loseTooMany 165 = .ok (.aload_n 0, 1) := by decide +kernel
theorem dX9_loseTooMany_166 : decode cX9_loseTooMany 166 = .ok (.dup, 1) := by decide +kernel
theorem dX9_loseTooMany_167 : decode cX9_loseTooMany 167 = .ok (.getfield 78, 3) := by decide +kernel
theorem dX9_loseTooMany_170 : decode cX9_loseTooMany 170 = .ok (.iload_n 3, 1) := by decide +kernel
theorem dX9_loseTooMany_171 : decode cX9_loseTooMany 171 = .ok (.iadd, 1) := by decide +kernel
theorem dX9_loseTooMany_172 : decode cX9_loseTooMany 172 = .ok (.putfield 78, 3) := by decide +kernel
theorem dX9_loseTooMany_175 : decode cX9_loseTooMany 175 = .ok (.iload_n 3, 1) := by decide +kernel
theorem dX9_loseTooMany_176 : decode cX9_loseTooMany 176 = .ok (.ireturn, 1) := by decide +kernel
theorem dX9_chargeUntil_0 : decode cX9_chargeUntil 0 = .ok (.aload_n 0, 1) := by decide +kernel
theorem dX9_chargeUntil_1 : decode cX9_chargeUntil 1 = .ok (.getfield 63, 3) := by decide +kernel
theorem dX9_chargeUntil_4 : decode cX9_chargeUntil 4 = .ok (.getfield 241, 3) := by decide +kernel
theorem dX9_chargeUntil_7 : decode cX9_chargeUntil 7 = .ok (.iload_n 1, 1) := by decide +kernel
theorem dX9_chargeUntil_8 : decode cX9_chargeUntil 8 = .ok (.invokevirtual 111, 3) := by decide +kernel
theorem dX9_chargeUntil_11 : decode cX9_chargeUntil 11 = .ok (.istore_n 3, 1) := by decide +kernel
theorem dX9_chargeUntil_12 : decode cX9_chargeUntil 12 = .ok (.aload_n 0, 1) := by decide +kernel
theorem dX9_chargeUntil_13 : decode cX9_chargeUntil 13 = .ok (.getfield 12, 3) := by decide +kernel
theorem dX9_chargeUntil_16 : decode cX9_chargeUntil 16 = .ok (.getfield 129, 3) := by decide +kernel
theorem dX9_chargeUntil_19 : decode cX9_chargeUntil 19 = .ok (.iload_n 3, 1) := by decide +kernel
theorem dX9_chargeUntil_20 : decode cX9_chargeUntil 20 = .ok (.invokevirtual 111, 3) := by decide +kernel
theorem dX9_chargeUntil_23 : decode cX9_chargeUntil 23 = .ok (.istore 4, 2) := by decide +kernel
theorem dX9_chargeUntil_25 : decode cX9_chargeUntil 25 = .ok (.aload_n 0, 1) := by decide +kernel
theorem dX9_chargeUntil_26 : decode cX9_chargeUntil 26 = .ok (.getfield 56, 3) := by decide +kernel
theorem dX9_chargeUntil_29 : decode cX9_chargeUntil 29 = .ok (.iload 4, 2) := by decide +kernel
theorem dX9_chargeUntil_31 : decode cX9_chargeUntil 31 = .ok (.aload_n 0, 1) := by decide +kernel
theorem dX9_chargeUntil_32 : decode cX9_chargeUntil 32 = .ok (.getfield 74, 3) := by decide +kernel
theorem dX9_chargeUntil_35 : decode cX9_chargeUntil 35 = .ok (.iload_n 2, 1) := by decide +kernel
theorem dX9_chargeUntil_36 : decode cX9_chargeUntil 36 = .ok (.invokevirtual 321, 3) := by decide +kernel
theorem dX9_chargeUntil_39 : decode cX9_chargeUntil 39 = .ok (.istore 5, 2) := by decide +kernel
theorem dX9_chargeUntil_41 : decode cX9_chargeUntil 41 = .ok (.aload_n 0, 1) := by decide +kernel
theorem dX9_chargeUntil_42 : decode cX9_chargeUntil 42 = .ok (.getfield 63, 3) := by decide +kernel
theorem dX9_chargeUntil_45 : decode cX9_chargeUntil 45 = .ok (.getfield 267, 3) := by decide +kernel
theorem dX9_chargeUntil_48 : decode cX9_chargeUntil 48 = .ok (.iload_n 1, 1) := by decide +kernel
theorem dX9_chargeUntil_49 : decode cX9_chargeUntil 49 = .ok (.iload 5, 2) := by decide +kernel
theorem dX9_chargeUntil_51 : decode cX9_chargeUntil 51 = .ok (.invokevirtual 177, 3) := by decide +kernel
theorem dX9_chargeUntil_54 : decode cX9_chargeUntil 54 = .ok (.aload_n 0, 1) := by decide +kernel
theorem dX9_chargeUntil_55 : decode cX9_chargeUntil 55 = .ok (.getfield 12, 3) := by decide +kernel
theorem dX9_chargeUntil_58 : decode cX9_chargeUntil 58 = .ok (.getfield 131, 3) := by decide +kernel
theorem dX9_chargeUntil_61 : decode cX9_chargeUntil 61 = .ok (.iload_n 3, 1) := by decide +kernel
theorem dX9_chargeUntil_62 : decode cX9_chargeUntil 62 = .ok (.iload 5, 2) := by decide +kernel
theorem dX9_chargeUntil_64 : decode cX9_chargeUntil 64 = .ok (.invokevirtual 177, 3) := by decide +kernel
theorem dX9_chargeUntil_67 : decode cX9_chargeUntil 67 = .ok (.aload_n 0, 1) := by decide +kernel
theorem dX9_chargeUntil_68 : decode cX9_chargeUntil 68 = .ok (.getfield 19, 3) := by decide +kernel
theorem dX9_chargeUntil_71 : decode cX9_chargeUntil 71 = .ok (.getfield 273, 3) := by decide +kernel
theorem dX9_chargeUntil_74 : decode cX9_chargeUntil 74 = .ok (.iload 4, 2) := by decide +kernel
theorem dX9_chargeUntil_76 : decode cX9_chargeUntil 76 = .ok (.iload 5, 2) := by decide +kernel
theorem dX9_chargeUntil_78 : decode cX9_chargeUntil 78 = .ok (.invokevirtual 177, 3) := by decide +kernel
theorem dX9_chargeUntil_81 : decode cX9_chargeUntil 81 = .ok (.aload_n 0, 1) := by decide +kernel
theorem dX9_chargeUntil_82 : decode cX9_chargeUntil 82 = .ok (.getfield 28, 3) := by decide +kernel
theorem dX9_chargeUntil_85 : decode cX9_chargeUntil 85 = .ok (.aload_n 0, 1) := by decide +kernel
theorem dX9_chargeUntil_86 : decode cX9_chargeUntil 86 = .ok (.getfield 12, 3) := by decide +kernel
theorem dX9_chargeUntil_89 : decode cX9_chargeUntil 89 = .ok (.getfield 154, 3) := by decide +kernel
theorem dX9_chargeUntil_92 : decode cX9_chargeUntil 92 = .ok (.iload_n 3, 1) := by decide +kernel
theorem dX9_chargeUntil_93 : decode cX9_chargeUntil 93 = .ok (.invokevirtual 111, 3) := by decide +kernel
theorem dX9_chargeUntil_96 : decode cX9_chargeUntil 96 = .ok (.iload 5, 2) := by decide +kernel
theorem dX9_chargeUntil_98 : decode cX9_chargeUntil 98 = .ok (.invokevirtual 177, 3) := by decide +kernel
theorem dX9_chargeUntil_101 : decode cX9_chargeUntil 101 = .ok (.iload 5, 2) := by decide +kernel
theorem dX9_chargeUntil_103 : decode cX9_chargeUntil 103 = .ok (.ireturn, 1) := by decide +kernel
theorem dX9_chargesAnew_0 : decode cX9_chargesAnew 0 = .ok (.aload_n 0, 1) := by decide +kernel
theorem dX9_chargesAnew_1 : decode cX9_chargesAnew 1 = .ok (.getfield 63, 3) := by decide +kernel
theorem dX9_chargesAnew_4 : decode cX9_chargesAnew 4 = .ok (.getfield 241, 3) := by decide +kernel
theorem dX9_chargesAnew_7 : decode cX9_chargesAnew 7 = .ok (.iload_n 1, 1) := by decide +kernel
theorem dX9_chargesAnew_8 : decode cX9_chargesAnew 8 = .ok (.invokevirtual 111, 3) := by decide +kernel
theorem dX9_chargesAnew_11 : decode cX9_chargesAnew 11 = .ok (.istore 4, 2) := by decide +kernel
theorem dX9_chargesAnew_13 : decode cX9_chargesAnew 13 = .ok (.aload_n 0, 1) := by decide +kernel
theorem dX9_chargesAnew_14 : decode cX9_chargesAnew 14 = .ok (.getfield 63, 3) := by decide +kernel
theorem dX9_chargesAnew_17 : decode cX9_chargesAnew 17 = .ok (.iload_n 1, 1) := by decide +kernel
theorem dX9_chargesAnew_18 : decode cX9_chargesAnew 18 = .ok (.aload_n 0, 1) := by decide +kernel
theorem dX9_chargesAnew_19 : decode cX9_chargesAnew 19 = .ok (.getfield 74, 3) := by decide +kernel
theorem dX9_chargesAnew_22 : decode cX9_chargesAnew 22 = .ok (.invokevirtual 324, 3) := by decide +kernel
theorem dX9_chargesAnew_25 : decode cX9_chargesAnew 25 = .ok (.istore 5, 2) := by decide +kernel
theorem dX9_chargesAnew_27 : decode cX9_chargesAnew 27 = .ok (.aload_n 0, 1) := by decide +kernel
theorem dX9_chargesAnew_28 : decode cX9_chargesAnew 28 = .ok (.getfield 63, 3) := by decide +kernel
theorem dX9_chargesAnew_31 : decode cX9_chargesAnew 31 = .ok (.getfield 327, 3) := by decide +kernel
theorem dX9_chargesAnew_34 : decode cX9_chargesAnew 34 = .ok (.iload_n 1, 1) := by decide +kernel
theorem dX9_chargesAnew_35 : decode cX9_chargesAnew 35 = .ok (.invokevirtual 111, 3) := by decide +kernel
theorem dX9_chargesAnew_38 : decode cX9_chargesAnew 38 = .ok (.istore 6, 2) := by decide +kernel
theorem dX9_chargesAnew_40 : decode cX9_chargesAnew 40 = .ok (.iconst 0, 1) := by decide +kernel
theorem dX9_chargesAnew_41 : decode cX9_chargesAnew 41 = .ok (.istore 7, 2) := by decide +kernel
theorem dX9_chargesAnew_43 : decode cX9_chargesAnew 43 = .ok (.iconst 0, 1) := by decide +kernel
theorem dX9_chargesAnew_44 : decode cX9_chargesAnew 44 = .ok (.istore 8, 2) := by decide +kernel
theorem dX9_chargesAnew_46 : decode cX9_chargesAnew 46 = .ok (.iload 8, 2) := by decide +kernel
theorem dX9_chargesAnew_48 : decode cX9_chargesAnew 48 = .ok (.sipush 181, 3) := by decide +kernel
theorem dX9_chargesAnew_51 : decode cX9_chargesAnew 51 = .ok (.if_icmp .ge 139, 3) := by decide +kernel
theorem dX9_chargesAnew_54 : decode cX9_chargesAnew 54 = .ok (.iload 6, 2) := by decide +kernel
theorem dX9_chargesAnew_56 : decode cX9_chargesAnew 56 = .ok (.iload 5, 2) := by decide +kernel
theorem dX9_chargesAnew_58 : decode cX9_chargesAnew 58 = .ok (.if_icmp .ge 132, 3) := by decide +kernel
theorem dX9_chargesAnew_61 : decode cX9_chargesAnew 61 = .ok (.aload_n 0, 1) := by decide +kernel
theorem dX9_chargesAnew_62 : decode cX9_chargesAnew 62 = .ok (.getfield 42, 3) := by decide +kernel
theorem dX9_chargesAnew_65 : decode cX9_chargesAnew 65 = .ok (.iload 4, 2) := by decide +kernel
theorem dX9_chargesAnew_67 : decode cX9_chargesAnew 67 = .ok (.iload 6, 2) := by decide +kernel
theorem dX9_chargesAnew_69 : decode cX9_chargesAnew 69 = .ok (.invokevirtual 234, 3) := by decide +kernel
theorem dX9_chargesAnew_72 : decode cX9_chargesAnew 72 = .ok (.istore 9, 2) := by decide +kernel
theorem dX9_chargesAnew_74 : decode cX9_chargesAnew 74 = .ok (.aload_n 0, 1) := by decide +kernel
theorem dX9_chargesAnew_75 : decode cX9_chargesAnew 75 = .ok (.getfield 49, 3) := by decide +kernel
theorem dX9_chargesAnew_78 : decode cX9_chargesAnew 78 = .ok (.iload 4, 2) := by decide +kernel
theorem dX9_chargesAnew_80 : decode cX9_chargesAnew 80 = .ok (.iload 6, 2) := by decide +kernel
theorem dX9_chargesAnew_82 : decode cX9_chargesAnew 82 = .ok (.iload 4, 2) := by decide +kernel
theorem dX9_chargesAnew_84 : decode cX9_chargesAnew 84 = .ok (.bipush 6, 2) := by decide +kernel
theorem dX9_chargesAnew_86 : decode cX9_chargesAnew 86 = .ok (.irem, 1) := by decide +kernel
theorem dX9_chargesAnew_87 : decode cX9_chargesAnew 87 = .ok (.invokevirtual 330, 3) := by decide +kernel
theorem dX9_chargesAnew_90 : decode cX9_chargesAnew 90 = .ok (.istore 10, 2) := by decide +kernel
theorem dX9_chargesAnew_92 : decode cX9_chargesAnew 92 = .ok (.aload_n 0, 1) := by decide +kernel
theorem dX9_chargesAnew_93 : decode cX9_chargesAnew 93 = .ok (.getfield 42, 3) := by decide +kernel
theorem dX9_chargesAnew_96 : decode cX9_chargesAnew 96 = .ok (.getfield 333, 3) := by decide +kernel
theorem dX9_chargesAnew_99 : decode cX9_chargesAnew 99 = .ok (.iload 4, 2) := by decide +kernel
theorem dX9_chargesAnew_101 : decode cX9_chargesAnew 101 = .ok (.iload 6, 2) := by decide +kernel
theorem dX9_chargesAnew_103 : decode cX9_chargesAnew 103 = .ok (.iload 5, 2) := by decide +kernel
theorem dX9_chargesAnew_105 : decode cX9_chargesAnew 105 = .ok (.invokevirtual 336, 3) := by decide +kernel
theorem dX9_chargesAnew_108 : decode cX9_chargesAnew 108 = .ok (.istore 11, 2) := by decide +kernel
theorem dX9_chargesAnew_110 : decode cX9_chargesAnew 110 = .ok (.aload_n 0, 1) := by decide +kernel
theorem dX9_chargesAnew_111 : decode cX9_chargesAnew 111 = .ok (.getfield 49, 3) := by decide +kernel
theorem dX9_chargesAnew_114 : decode cX9_chargesAnew 114 = .ok (.iload 4, 2) := by decide +kernel
theorem dX9_chargesAnew_116 : decode cX9_chargesAnew 116 = .ok (.iload 6, 2) := by decide +kernel
theorem dX9_chargesAnew_118 : decode cX9_chargesAnew 118 = .ok (.iload 11, 2) := by decide +kernel
theorem dX9_chargesAnew_120 : decode cX9_chargesAnew 120 = .ok (.invokevirtual 336, 3) := by decide +kernel
theorem dX9_chargesAnew_123 : decode cX9_chargesAnew 123 = .ok (.istore 11, 2) := by decide +kernel
theorem dX9_chargesAnew_125 : decode cX9_chargesAnew 125 = .ok (.aload_n 0, 1) := by decide +kernel
theorem dX9_chargesAnew_126 : decode cX9_chargesAnew 126 = .ok (.getfield 56, 3) := by decide +kernel
theorem dX9_chargesAnew_129 : decode cX9_chargesAnew 129 = .ok (.iload 9, 2) := by decide +kernel
theorem dX9_chargesAnew_131 : decode cX9_chargesAnew 131 = .ok (.iload 6, 2) := by decide +kernel
theorem dX9_chargesAnew_133 : decode cX9_chargesAnew 133 = .ok (.iload 11, 2) := by decide +kernel
theorem dX9_chargesAnew_135 : decode cX9_chargesAnew 135 = .ok (.invokevirtual 339, 3) := by decide +kernel
theorem dX9_chargesAnew_138 : decode cX9_chargesAnew 138 = .ok (.istore 11, 2) := by decide +kernel
theorem dX9_chargesAnew_140 : decode cX9_chargesAnew 140 = .ok (.iload_n 2, 1) := by decide +kernel
theorem dX9_chargesAnew_141 : decode cX9_chargesAnew 141 = .ok (.iconst (-1), 1) := by decide +kernel
theorem dX9_chargesAnew_142 : decode cX9_chargesAnew 142 = .ok (.if_icmp .eq 9, 3) := by decide +kernel
theorem dX9_chargesAnew_145 : decode cX9_chargesAnew 145 = .ok (.iload_n 2, 1) := by decide +kernel
theorem dX9_chargesAnew_146 : decode cX9_chargesAnew 146 = .ok (.iload 9, 2) := by decide +kernel
theorem dX9_chargesAnew_148 : decode cX9_chargesAnew 148 = .ok (.if_icmp .ne 32, 3) := by decide +kernel
theorem dX9_chargesAnew_151 : decode cX9_chargesAnew 151 = .ok (.iload_n 3, 1) := by decide +kernel
theorem dX9_chargesAnew_152 : decode cX9_chargesAnew 152 = .ok (.iconst (-1), 1) := by decide +kernel
theorem dX9_chargesAnew_153 : decode cX9_chargesAnew 153 = .ok (.if_icmp .eq 9, 3) := by decide +kernel
theorem dX9_chargesAnew_156 : decode cX9_chargesAnew 156 = .ok (.iload_n 3, 1) := by decide +kernel
theorem dX9_chargesAnew_157 : decode cX9_chargesAnew 157 = .ok (.iload 10, 2) := by decide +kernel
theorem dX9_chargesAnew_159 : decode cX9_chargesAnew 159 = .ok (.if_icmp .ne 21, 3) := by decide +kernel
theorem dX9_chargesAnew_162 : decode cX9_chargesAnew 162 = .ok (.iload 7, 2) := by decide +kernel
theorem dX9_chargesAnew_164 : decode cX9_chargesAnew 164 = .ok (.aload_n 0, 1) := by decide +kernel
theorem dX9_chargesAnew_165 : decode cX9_chargesAnew 165 = .ok (.getfield 56, 3) := by decide +kernel
theorem dX9_chargesAnew_168 : decode cX9_chargesAnew 168 = .ok (.iload 9, 2) := by decide +kernel
theorem dX9_chargesAnew_170 : decode cX9_chargesAnew 170 = .ok (.iload 6, 2) := by decide +kernel
theorem dX9_chargesAnew_172 : decode cX9_chargesAnew 172 = .ok (.iload 11, 2) := by decide +kernel
theorem dX9_chargesAnew_174 : decode cX9_chargesAnew 174 = .ok (.invokevirtual 321, 3) := by decide +kernel
theorem dX9_chargesAnew_177 : decode cX9_chargesAnew 177 = .ok (.iadd, 1) := by decide +kernel
theorem dX9_chargesAnew_178 : decode cX9_chargesAnew 178 = .ok (.istore 7, 2) := by decide +kernel
theorem dX9_chargesAnew_180 : decode cX9_chargesAnew 180 = .ok (.iload 11, 2) := by decide +kernel
theorem dX9_chargesAnew_182 : decode cX9_chargesAnew 182 = .ok (.istore 6, 2) := by decide +kernel
theorem dX9_chargesAnew_184 : decode cX9_chargesAnew 184 = .ok (.iinc 8 1, 3) := by decide +kernel
theorem dX9_chargesAnew_187 : decode cX9_chargesAnew 187 = .ok (.goto (-141), 3) := by decide +kernel
theorem dX9_chargesAnew_190 : decode cX9_chargesAnew 190 = .ok (.iload 7, 2) := by decide +kernel
theorem dX9_chargesAnew_192 : decode cX9_chargesAnew 192 = .ok (.ireturn, 1) := by decide +kernel
theorem dJ9_max_7cf53_0 : decode cJ9_max_7cf53 0 = .ok (.iload_n 0, 1) := by decide +kernel
theorem dJ9_max_7cf53_1 : decode cJ9_max_7cf53 1 = .ok (.iload_n 1, 1) := by decide +kernel
theorem dJ9_max_7cf53_2 : decode cJ9_max_7cf53 2 = .ok (.if_icmp .lt 7, 3) := by decide +kernel
theorem dJ9_max_7cf53_5 : decode cJ9_max_7cf53 5 = .ok (.iload_n 0, 1) := by decide +kernel
theorem dJ9_max_7cf53_6 : decode cJ9_max_7cf53 6 = .ok (.goto 4, 3) := by decide +kernel
theorem dJ9_max_7cf53_9 : decode cJ9_max_7cf53 9 = .ok (.iload_n 1, 1) := by decide +kernel
theorem dJ9_max_7cf53_10 : decode cJ9_max_7cf53 10 = .ok (.ireturn, 1) := by decide +kernel
theorem dJ9_min_7cf53_0 : decode cJ9_min_7cf53 0 = .ok (.iload_n 0, 1) := by decide +kernel
theorem dJ9_min_7cf53_1 : decode cJ9_min_7cf53 1 = .ok (.iload_n 1, 1) := by decide +kernel
theorem dJ9_min_7cf53_2 : decode cJ9_min_7cf53 2 = .ok (.if_icmp .gt 7, 3) := by decide +kernel
theorem dJ9_min_7cf53_5 : decode cJ9_min_7cf53 5 = .ok (.iload_n 0, 1) := by decide +kernel
theorem dJ9_min_7cf53_6 : decode cJ9_min_7cf53 6 = .ok (.goto 4, 3) := by decide +kernel
theorem dJ9_min_7cf53_9 : decode cJ9_min_7cf53 9 = .ok (.iload_n 1, 1) := by decide +kernel
theorem dJ9_min_7cf53_10 : decode cJ9_min_7cf53 10 = .ok (.ireturn, 1) := by decide +kernel
