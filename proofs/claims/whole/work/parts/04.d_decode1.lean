theorem dX0_cellOf_0 : decode cX0_cellOf 0 = .ok (.iload_n 0, 1) := by decide +kernel
theorem dX0_cellOf_1 : decode cX0_cellOf 1 = .ok (.sipush 500, 3) := by decide +kernel
theorem dX0_cellOf_4 : decode cX0_cellOf 4 = .ok (.isub, 1) := by decide +kernel
theorem dX0_cellOf_5 : decode cX0_cellOf 5 = .ok (.sipush 1000, 3) := by decide +kernel
theorem dX0_cellOf_8 : decode cX0_cellOf 8 = .ok (.idiv, 1) := by decide +kernel
theorem dX0_cellOf_9 : decode cX0_cellOf 9 = .ok (.iconst 5, 1) := by decide +kernel
theorem dX0_cellOf_10 : decode cX0_cellOf 10 = .ok (.invokestatic 9, 3) := by decide +kernel
theorem dX0_cellOf_13 : decode cX0_cellOf 13 = .ok (.istore_n 2, 1) := by decide +kernel
theorem dX0_cellOf_14 : decode cX0_cellOf 14 = .ok (.iload_n 1, 1) := by decide +kernel
theorem dX0_cellOf_15 : decode cX0_cellOf 15 = .ok (.bipush 25, 2) := by decide +kernel
theorem dX0_cellOf_17 : decode cX0_cellOf 17 = .ok (.idiv, 1) := by decide +kernel
theorem dX0_cellOf_18 : decode cX0_cellOf 18 = .ok (.iconst 3, 1) := by decide +kernel
theorem dX0_cellOf_19 : decode cX0_cellOf 19 = .ok (.invokestatic 9, 3) := by decide +kernel
theorem dX0_cellOf_22 : decode cX0_cellOf 22 = .ok (.istore_n 3, 1) := by decide +kernel
theorem dX0_cellOf_23 : decode cX0_cellOf 23 = .ok (.iconst 4, 1) := by decide +kernel
theorem dX0_cellOf_24 : decode cX0_cellOf 24 = .ok (.iload_n 2, 1) := by decide +kernel
theorem dX0_cellOf_25 : decode cX0_cellOf 25 = .ok (.imul, 1) := by decide +kernel
theorem dX0_cellOf_26 : decode cX0_cellOf 26 = .ok (.iload_n 3, 1) := by decide +kernel
theorem dX0_cellOf_27 : decode cX0_cellOf 27 = .ok (.iadd, 1) := by decide +kernel
theorem dX0_cellOf_28 : decode cX0_cellOf 28 = .ok (.ireturn, 1) := by decide +kernel
theorem dX0_basicAdvance_0 : decode cX0_basicAdvance 0 = .ok (.bipush 100, 2) := by decide +kernel
theorem dX0_basicAdvance_2 : decode cX0_basicAdvance 2 = .ok (.iload_n 0, 1) := by decide +kernel
theorem dX0_basicAdvance_3 : decode cX0_basicAdvance 3 = .ok (.bipush 50, 2) := by decide +kernel
theorem dX0_basicAdvance_5 : decode cX0_basicAdvance 5 = .ok (.idiv, 1) := by decide +kernel
theorem dX0_basicAdvance_6 : decode cX0_basicAdvance 6 = .ok (.iadd, 1) := by decide +kernel
theorem dX0_basicAdvance_7 : decode cX0_basicAdvance 7 = .ok (.iload_n 1, 1) := by decide +kernel
theorem dX0_basicAdvance_8 : decode cX0_basicAdvance 8 = .ok (.isub, 1) := by decide +kernel
theorem dX0_basicAdvance_9 : decode cX0_basicAdvance 9 = .ok (.ireturn, 1) := by decide +kernel
theorem dX0_knockLimit_0 : decode cX0_knockLimit 0 = .ok (.sipush 150, 3) := by decide +kernel
theorem dX0_knockLimit_3 : decode cX0_knockLimit 3 = .ok (.iload_n 0, 1) := by decide +kernel
theorem dX0_knockLimit_4 : decode cX0_knockLimit 4 = .ok (.bipush 60, 2) := by decide +kernel
theorem dX0_knockLimit_6 : decode cX0_knockLimit 6 = .ok (.idiv, 1) := by decide +kernel
theorem dX0_knockLimit_7 : decode cX0_knockLimit 7 = .ok (.iadd, 1) := by decide +kernel
theorem dX0_knockLimit_8 : decode cX0_knockLimit 8 = .ok (.iload_n 1, 1) := by decide +kernel
theorem dX0_knockLimit_9 : decode cX0_knockLimit 9 = .ok (.iconst 3, 1) := by decide +kernel
theorem dX0_knockLimit_10 : decode cX0_knockLimit 10 = .ok (.imul, 1) := by decide +kernel
theorem dX0_knockLimit_11 : decode cX0_knockLimit 11 = .ok (.iconst 2, 1) := by decide +kernel
theorem dX0_knockLimit_12 : decode cX0_knockLimit 12 = .ok (.idiv, 1) := by decide +kernel
theorem dX0_knockLimit_13 : decode cX0_knockLimit 13 = .ok (.isub, 1) := by decide +kernel
theorem dX0_knockLimit_14 : decode cX0_knockLimit 14 = .ok (.iload_n 2, 1) := by decide +kernel
theorem dX0_knockLimit_15 : decode cX0_knockLimit 15 = .ok (.bipush 95, 2) := by decide +kernel
theorem dX0_knockLimit_17 : decode cX0_knockLimit 17 = .ok (.isub, 1) := by decide +kernel
theorem dX0_knockLimit_18 : decode cX0_knockLimit 18 = .ok (.bipush 8, 2) := by decide +kernel
theorem dX0_knockLimit_20 : decode cX0_knockLimit 20 = .ok (.imul, 1) := by decide +kernel
theorem dX0_knockLimit_21 : decode cX0_knockLimit 21 = .ok (.iadd, 1) := by decide +kernel
theorem dX0_knockLimit_22 : decode cX0_knockLimit 22 = .ok (.ireturn, 1) := by decide +kernel
theorem dX1_init_0 : decode cX1_init 0 = .ok (.aload_n 0, 1) := by decide +kernel
theorem dX1_init_1 : decode cX1_init 1 = .ok (.invokespecial 3, 3) := by decide +kernel
theorem dX1_init_4 : decode cX1_init 4 = .ok (.aload_n 0, 1) := by decide +kernel
theorem dX1_init_5 : decode cX1_init 5 = .ok (.new 9, 3) := by decide +kernel
theorem dX1_init_8 : decode cX1_init 8 = .ok (.dup, 1) := by decide +kernel
theorem dX1_init_9 : decode cX1_init 9 = .ok (.bipush 120, 2) := by decide +kernel
theorem dX1_init_11 : decode cX1_init 11 = .ok (.invokespecial 11, 3) := by decide +kernel
theorem dX1_init_14 : decode cX1_init 14 = .ok (.putfield 14, 3) := by decide +kernel
theorem dX1_init_17 : decode cX1_init 17 = .ok (.aload_n 0, 1) := by decide +kernel
theorem dX1_init_18 : decode cX1_init 18 = .ok (.new 9, 3) := by decide +kernel
theorem dX1_init_21 : decode cX1_init 21 = .ok (.dup, 1) := by decide +kernel
theorem dX1_init_22 : decode cX1_init 22 = .ok (.bipush 60, 2) := by decide +kernel
theorem dX1_init_24 : decode cX1_init 24 = .ok (.invokespecial 11, 3) := by decide +kernel
theorem dX1_init_27 : decode cX1_init 27 = .ok (.putfield 20, 3) := by decide +kernel
theorem dX1_init_30 : decode cX1_init 30 = .ok (.return_, 1) := by decide +kernel
theorem dX1_size_0 : decode cX1_size 0 = .ok (.aload_n 0, 1) := by decide +kernel
theorem dX1_size_1 : decode cX1_size 1 = .ok (.getfield 23, 3) := by decide +kernel
theorem dX1_size_4 : decode cX1_size 4 = .ok (.ireturn, 1) := by decide +kernel
theorem dX1_add_0 : decode cX1_add 0 = .ok (.aload_n 0, 1) := by decide +kernel
theorem dX1_add_1 : decode cX1_add 1 = .ok (.getfield 23, 3) := by decide +kernel
theorem dX1_add_4 : decode cX1_add 4 = .ok (.bipush 120, 2) := by decide +kernel
theorem dX1_add_6 : decode cX1_add 6 = .ok (.if_icmp .ge 25, 3) := by decide +kernel
theorem dX1_add_9 : decode cX1_add 9 = .ok (.aload_n 0, 1) := by decide +kernel
theorem dX1_add_10 : decode cX1_add 10 = .ok (.getfield 14, 3) := by decide +kernel
theorem dX1_add_13 : decode cX1_add 13 = .ok (.aload_n 0, 1) := by decide +kernel
theorem dX1_add_14 : decode cX1_add 14 = .ok (.getfield 23, 3) := by decide +kernel
theorem dX1_add_17 : decode cX1_add 17 = .ok (.iload_n 1, 1) := by decide +kernel
theorem dX1_add_18 : decode cX1_add 18 = .ok (.invokevirtual 27, 3) := by decide +kernel
theorem dX1_add_21 : decode cX1_add 21 = .ok (.aload_n 0, 1) := by decide +kernel
theorem dX1_add_22 : decode cX1_add 22 = .ok (.dup, 1) := by decide +kernel
theorem dX1_add_23 : decode cX1_add 23 = .ok (.getfield 23, 3) := by decide +kernel
theorem dX1_add_26 : decode cX1_add 26 = .ok (.iconst 1, 1) := by decide +kernel
theorem dX1_add_27 : decode cX1_add 27 = .ok (.iadd, 1) := by decide +kernel
theorem dX1_add_28 : decode cX1_add 28 = .ok (.putfield 23, 3) := by decide +kernel
theorem dX1_add_31 : decode cX1_add 31 = .ok (.return_, 1) := by decide +kernel
theorem dX1_empty_0 : decode cX1_empty 0 = .ok (.aload_n 0, 1) := by decide +kernel
theorem dX1_empty_1 : decode cX1_empty 1 = .ok (.iconst 0, 1) := by decide +kernel
theorem dX1_empty_2 : decode cX1_empty 2 = .ok (.putfield 23, 3) := by decide +kernel
theorem dX1_empty_5 : decode cX1_empty 5 = .ok (.return_, 1) := by decide +kernel
theorem dX1_read_0 : decode cX1_read 0 = .ok (.aload_n 0, 1) := by decide +kernel
theorem dX1_read_1 : decode cX1_read 1 = .ok (.iconst 0, 1) := by decide +kernel
theorem dX1_read_2 : decode cX1_read 2 = .ok (.putfield 31, 3) := by decide +kernel
theorem dX1_read_5 : decode cX1_read 5 = .ok (.iconst 0, 1) := by decide +kernel
theorem dX1_read_6 : decode cX1_read 6 = .ok (.istore_n 1, 1) := by decide +kernel
theorem dX1_read_7 : decode cX1_read 7 = .ok (.iconst 0, 1) := by decide +kernel
theorem dX1_read_8 : decode cX1_read 8 = .ok (.istore_n 2, 1) := by decide +kernel
theorem dX1_read_9 : decode cX1_read 9 = .ok (.iconst 0, 1) := by decide +kernel
theorem dX1_read_10 : decode cX1_read 10 = .ok (.istore_n 3, 1) := by decide +kernel
theorem dX1_read_11 : decode cX1_read 11 = .ok (.iload_n 3, 1) := by decide +kernel
theorem dX1_read_12 : decode cX1_read 12 = .ok (.aload_n 0, 1) := by decide +kernel
theorem dX1_read_13 : decode cX1_read 13 = .ok (.getfield 23, 3) := by decide +kernel
theorem dX1_read_16 : decode cX1_read 16 = .ok (.if_icmp .ge 99, 3) := by decide +kernel
theorem dX1_read_19 : decode cX1_read 19 = .ok (.aload_n 0, 1) := by decide +kernel
theorem dX1_read_20 : decode cX1_read 20 = .ok (.getfield 14, 3) := by decide +kernel
theorem dX1_read_23 : decode cX1_read 23 = .ok (.iload_n 3, 1) := by decide +kernel
theorem dX1_read_24 : decode cX1_read 24 = .ok (.invokevirtual 34, 3) := by decide +kernel
theorem dX1_read_27 : decode cX1_read 27 = .ok (.istore 4, 2) := by decide +kernel
theorem dX1_read_29 : decode cX1_read 29 = .ok (.iload 4, 2) := by decide +kernel
theorem dX1_read_31 : decode cX1_read 31 = .ok (.bipush 48, 2) := by decide +kernel
theorem dX1_read_33 : decode cX1_read 33 = .ok (.if_icmp .lt 32, 3) := by decide +kernel
theorem dX1_read_36 : decode cX1_read 36 = .ok (.iload 4, 2) := by decide +kernel
theorem dX1_read_38 : decode cX1_read 38 = .ok (.bipush 57, 2) := by decide +kernel
theorem dX1_read_40 : decode cX1_read 40 = .ok (.if_icmp .gt 25, 3) := by decide +kernel
theorem dX1_read_43 : decode cX1_read 43 = .ok (.iload_n 1, 1) := by decide +kernel
theorem dX1_read_44 : decode cX1_read 44 = .ok (.iconst 5, 1) := by decide +kernel
theorem dX1_read_45 : decode cX1_read 45 = .ok (.if_icmp .ge 20, 3) := by decide +kernel
theorem dX1_read_48 : decode cX1_read 48 = .ok (.bipush 10, 2) := by decide +kernel
theorem dX1_read_50 : decode cX1_read 50 = .ok (.iload_n 2, 1) := by decide +kernel
theorem dX1_read_51 : decode cX1_read 51 = .ok (.imul, 1) := by decide +kernel
theorem dX1_read_52 : decode cX1_read 52 = .ok (.iload 4, 2) := by decide +kernel
theorem dX1_read_54 : decode cX1_read 54 = .ok (.iadd, 1) := by decide +kernel
theorem dX1_read_55 : decode cX1_read 55 = .ok (.bipush 48, 2) := by decide +kernel
theorem dX1_read_57 : decode cX1_read 57 = .ok (.isub, 1) := by decide +kernel
theorem dX1_read_58 : decode cX1_read 58 = .ok (.istore_n 2, 1) := by decide +kernel
theorem dX1_read_59 : decode cX1_read 59 = .ok (.iinc 1 1, 3) := by decide +kernel
theorem dX1_read_62 : decode cX1_read 62 = .ok (.goto 47, 3) := by decide +kernel
theorem dX1_read_65 : decode cX1_read 65 = .ok (.iload_n 1, 1) := by decide +kernel
theorem dX1_read_66 : decode cX1_read 66 = .ok (.ifCond .le 41, 3) := by decide +kernel
theorem dX1_read_69 : decode cX1_read 69 = .ok (.iload 4, 2) := by decide +kernel
theorem dX1_read_71 : decode cX1_read 71 = .ok (.aload_n 0, 1) := by decide +kernel
theorem dX1_read_72 : decode cX1_read 72 = .ok (.invokevirtual 38, 3) := by decide +kernel
theorem dX1_read_75 : decode cX1_read 75 = .ok (.if_icmp .ne 32, 3) := by decide +kernel
theorem dX1_read_78 : decode cX1_read 78 = .ok (.aload_n 0, 1) := by decide +kernel
theorem dX1_read_79 : decode cX1_read 79 = .ok (.getfield 20, 3) := by decide +kernel
theorem dX1_read_82 : decode cX1_read 82 = .ok (.aload_n 0, 1) := by decide +kernel
theorem dX1_read_83 : decode cX1_read 83 = .ok (.getfield 31, 3) := by decide +kernel
theorem dX1_read_86 : decode cX1_read 86 = .ok (.iload_n 2, 1) := by decide +kernel
theorem dX1_read_87 : decode cX1_read 87 = .ok (.invokevirtual 27, 3) := by decide +kernel
theorem dX1_read_90 : decode cX1_read 90 = .ok (.aload_n 0, 1) := by decide +kernel
theorem dX1_read_91 : decode cX1_read 91 = .ok (.dup, 1) := by decide +kernel
theorem dX1_read_92 : decode cX1_read 92 = .ok (.getfield 31, 3) := by decide +kernel
theorem dX1_read_95 : decode cX1_read 95 = .ok (.iconst 1, 1) := by decide +kernel
theorem dX1_read_96 : decode cX1_read 96 = .ok (.iadd, 1) := by decide +kernel
theorem dX1_read_97 : decode cX1_read 97 = .ok (.putfield 31, 3) := by decide +kernel
theorem dX1_read_100 : decode cX1_read 100 = .ok (.iconst 0, 1) := by decide +kernel
theorem dX1_read_101 : decode cX1_read 101 = .ok (.istore_n 2, 1) := by decide +kernel
theorem dX1_read_102 : decode cX1_read 102 = .ok (.iconst 0, 1) := by decide +kernel
theorem dX1_read_103 : decode cX1_read 103 = .ok (.istore_n 1, 1) := by decide +kernel
theorem dX1_read_104 : decode cX1_read 104 = .ok (.goto 5, 3) := by decide +kernel
theorem dX1_read_107 : decode cX1_read 107 = .ok (.iload_n 3, 1) := by decide +kernel
theorem dX1_read_108 : decode cX1_read 108 = .ok (.ireturn, 1) := by decide +kernel
theorem dX1_read_109 : decode cX1_read 109 = .ok (.iinc 3 1, 3) := by decide +kernel
theorem dX1_read_112 : decode cX1_read 112 = .ok (.goto (-101), 3) := by decide +kernel
theorem dX1_read_115 : decode cX1_read 115 = .ok (.iload_n 1, 1) := by decide +kernel
theorem dX1_read_116 : decode cX1_read 116 = .ok (.ifCond .ne 16, 3) := by decide +kernel
theorem dX1_read_119 : decode cX1_read 119 = .ok (.aload_n 0, 1) := by decide +kernel
theorem dX1_read_120 : decode cX1_read 120 = .ok (.getfield 31, 3) := by decide +kernel
theorem dX1_read_123 : decode cX1_read 123 = .ok (.iconst 3, 1) := by decide +kernel
theorem dX1_read_124 : decode cX1_read 124 = .ok (.irem, 1) := by decide +kernel
theorem dX1_read_125 : decode cX1_read 125 = .ok (.ifCond .ne 7, 3) := by decide +kernel
theorem dX1_read_128 : decode cX1_read 128 = .ok (.iconst 1, 1) := by decide +kernel
theorem dX1_read_129 : decode cX1_read 129 = .ok (.goto 4, 3) := by decide +kernel
theorem dX1_read_132 : decode cX1_read 132 = .ok (.iconst 0, 1) := by decide +kernel
theorem dX1_read_133 : decode cX1_read 133 = .ok (.istore_n 3, 1) := by decide +kernel
theorem dX1_read_134 : decode cX1_read 134 = .ok (.iload_n 3, 1) := by decide +kernel
theorem dX1_read_135 : decode cX1_read 135 = .ok (.ifCond .eq 7, 3) := by decide +kernel
theorem dX1_read_138 : decode cX1_read 138 = .ok (.iconst (-1), 1) := by decide +kernel
theorem dX1_read_139 : decode cX1_read 139 = .ok (.goto 7, 3) := by decide +kernel
theorem dX1_read_142 : decode cX1_read 142 = .ok (.aload_n 0, 1) := by decide +kernel
theorem dX1_read_143 : decode cX1_read 143 = .ok (.getfield 23, 3) := by decide +kernel
theorem dX1_read_146 : decode cX1_read 146 = .ok (.ireturn, 1) := by decide +kernel
theorem dX1_firingsRead_0 : decode cX1_firingsRead 0 = .ok (.aload_n 0, 1) := by decide +kernel
theorem dX1_firingsRead_1 : decode cX1_firingsRead 1 = .ok (.getfield 31, 3) := by decide +kernel
theorem dX1_firingsRead_4 : decode cX1_firingsRead 4 = .ok (.iconst 3, 1) := by decide +kernel
theorem dX1_firingsRead_5 : decode cX1_firingsRead 5 = .ok (.idiv, 1) := by decide +kernel
theorem dX1_firingsRead_6 : decode cX1_firingsRead 6 = .ok (.ireturn, 1) := by decide +kernel
theorem dX1_number_0 : decode cX1_number 0 = .ok (.aload_n 0, 1) := by decide +kernel
theorem dX1_number_1 : decode cX1_number 1 = .ok (.getfield 20, 3) := by decide +kernel
theorem dX1_number_4 : decode cX1_number 4 = .ok (.iconst 3, 1) := by decide +kernel
theorem dX1_number_5 : decode cX1_number 5 = .ok (.iload_n 1, 1) := by decide +kernel
theorem dX1_number_6 : decode cX1_number 6 = .ok (.imul, 1) := by decide +kernel
theorem dX1_number_7 : decode cX1_number 7 = .ok (.iload_n 2, 1) := by decide +kernel
theorem dX1_number_8 : decode cX1_number 8 = .ok (.iadd, 1) := by decide +kernel
theorem dX1_number_9 : decode cX1_number 9 = .ok (.invokevirtual 34, 3) := by decide +kernel
theorem dX1_number_12 : decode cX1_number 12 = .ok (.ireturn, 1) := by decide +kernel
theorem dX1_separator_0 : decode cX1_separator 0 = .ok (.aload_n 0, 1) := by decide +kernel
theorem dX1_separator_1 : decode cX1_separator 1 = .ok (.getfield 31, 3) := by decide +kernel
theorem dX1_separator_4 : decode cX1_separator 4 = .ok (.iconst 3, 1) := by decide +kernel
theorem dX1_separator_5 : decode cX1_separator 5 = .ok (.irem, 1) := by decide +kernel
theorem dX1_separator_6 : decode cX1_separator 6 = .ok (.iconst 2, 1) := by decide +kernel
theorem dX1_separator_7 : decode cX1_separator 7 = .ok (.if_icmp .ne 7, 3) := by decide +kernel
theorem dX1_separator_10 : decode cX1_separator 10 = .ok (.iconst 1, 1) := by decide +kernel
theorem dX1_separator_11 : decode cX1_separator 11 = .ok (.goto 4, 3) := by decide +kernel
theorem dX1_separator_14 : decode cX1_separator 14 = .ok (.iconst 0, 1) := by decide +kernel
theorem dX1_separator_15 : decode cX1_separator 15 = .ok (.istore_n 1, 1) := by decide +kernel
theorem dX1_separator_16 : decode cX1_separator 16 = .ok (.iload_n 1, 1) := by decide +kernel
theorem dX1_separator_17 : decode cX1_separator 17 = .ok (.ifCond .eq 8, 3) := by decide +kernel
theorem dX1_separator_20 : decode cX1_separator 20 = .ok (.bipush 59, 2) := by decide +kernel
theorem dX1_separator_22 : decode cX1_separator 22 = .ok (.goto 5, 3) := by decide +kernel
theorem dX1_separator_25 : decode cX1_separator 25 = .ok (.bipush 32, 2) := by decide +kernel
theorem dX1_separator_27 : decode cX1_separator 27 = .ok (.ireturn, 1) := by decide +kernel
theorem dX2_init_0 : decode cX2_init 0 = .ok (.aload_n 0, 1) := by decide +kernel
theorem dX2_init_1 : decode cX2_init 1 = .ok (.invokespecial 3, 3) := by decide +kernel
theorem dX2_init_4 : decode cX2_init 4 = .ok (.aload_n 0, 1) := by decide +kernel
theorem dX2_init_5 : decode cX2_init 5 = .ok (.iconst 4, 1) := by decide +kernel
theorem dX2_init_6 : decode cX2_init 6 = .ok (.anewarray 9, 3) := by decide +kernel
theorem dX2_init_9 : decode cX2_init 9 = .ok (.putfield 11, 3) := by decide +kernel
theorem dX2_init_12 : decode cX2_init 12 = .ok (.iconst 0, 1) := by decide +kernel
theorem dX2_init_13 : decode cX2_init 13 = .ok (.istore_n 1, 1) := by decide +kernel
theorem dX2_init_14 : decode cX2_init 14 = .ok (.iload_n 1, 1) := by decide +kernel
theorem dX2_init_15 : decode cX2_init 15 = .ok (.aload_n 0, 1) := by decide +kernel
theorem dX2_init_16 : decode cX2_init 16 = .ok (.getfield 11, 3) := by decide +kernel
theorem dX2_init_19 : decode cX2_init 19 = .ok (.arraylength, 1) := by decide +kernel
theorem dX2_init_20 : decode cX2_init 20 = .ok (.if_icmp .ge 22, 3) := by decide +kernel
theorem dX2_init_23 : decode cX2_init 23 = .ok (.aload_n 0, 1) := by decide +kernel
theorem dX2_init_24 : decode cX2_init 24 = .ok (.getfield 11, 3) := by decide +kernel
theorem dX2_init_27 : decode cX2_init 27 = .ok (.iload_n 1, 1) := by decide +kernel
theorem dX2_init_28 : decode cX2_init 28 = .ok (.new 9, 3) := by decide +kernel
theorem dX2_init_31 : decode cX2_init 31 = .ok (.dup, 1) := by decide +kernel
theorem dX2_init_32 : decode cX2_init 32 = .ok (.invokespecial 17, 3) := by decide +kernel
theorem dX2_init_35 : decode cX2_init 35 = .ok (.aastore, 1) := by decide +kernel
theorem dX2_init_36 : decode cX2_init 36 = .ok (.iinc 1 1, 3) := by decide +kernel
theorem dX2_init_39 : decode cX2_init 39 = .ok (.goto (-25), 3) := by decide +kernel
theorem dX2_init_42 : decode cX2_init 42 = .ok (.return_, 1) := by decide +kernel
theorem dX2_size_0 : decode cX2_size 0 = .ok (.aload_n 0, 1) := by decide +kernel
theorem dX2_size_1 : decode cX2_size 1 = .ok (.getfield 18, 3) := by decide +kernel
theorem dX2_size_4 : decode cX2_size 4 = .ok (.ireturn, 1) := by decide +kernel
theorem dX2_keep_0 : decode cX2_keep 0 = .ok (.aload_n 0, 1) := by decide +kernel
theorem dX2_keep_1 : decode cX2_keep 1 = .ok (.aload_n 0, 1) := by decide +kernel
theorem dX2_keep_2 : decode cX2_keep 2 = .ok (.getfield 18, 3) := by decide +kernel
theorem dX2_keep_5 : decode cX2_keep 5 = .ok (.invokevirtual 22, 3) := by decide +kernel
theorem dX2_keep_8 : decode cX2_keep 8 = .ok (.astore_n 2, 1) := by decide +kernel
theorem dX2_keep_9 : decode cX2_keep 9 = .ok (.aload_n 2, 1) := by decide +kernel
theorem dX2_keep_10 : decode cX2_keep 10 = .ok (.ifnull 8, 3) := by decide +kernel
theorem dX2_keep_13 : decode cX2_keep 13 = .ok (.aload_n 2, 1) := by decide +kernel
theorem dX2_keep_14 : decode cX2_keep 14 = .ok (.aload_n 1, 1) := by decide +kernel
theorem dX2_keep_15 : decode cX2_keep 15 = .ok (.invokevirtual 26, 3) := by decide +kernel
theorem dX2_keep_18 : decode cX2_keep 18 = .ok (.aload_n 0, 1) := by decide +kernel
theorem dX2_keep_19 : decode cX2_keep 19 = .ok (.getfield 18, 3) := by decide +kernel
theorem dX2_keep_22 : decode cX2_keep 22 = .ok (.iconst 4, 1) := by decide +kernel
theorem dX2_keep_23 : decode cX2_keep 23 = .ok (.if_icmp .ge 16, 3) := by decide +kernel
theorem dX2_keep_26 : decode cX2_keep 26 = .ok (.aload_n 0, 1) := by decide +kernel
theorem dX2_keep_27 : decode cX2_keep 27 = .ok (.dup, 1) := by decide +kernel
theorem dX2_keep_28 : decode cX2_keep 28 = .ok (.getfield 18, 3) := by decide +kernel
theorem dX2_keep_31 : decode cX2_keep 31 = .ok (.iconst 1, 1) := by decide +kernel
theorem dX2_keep_32 : decode cX2_keep 32 = .ok (.iadd, 1) := by decide +kernel
theorem dX2_keep_33 : decode cX2_keep 33 = .ok (.putfield 18, 3) := by decide +kernel
theorem dX2_keep_36 : decode cX2_keep 36 = .ok (.goto 15, 3) := by decide +kernel
theorem dX2_keep_39 : decode cX2_keep 39 = .ok (.aload_n 0, 1) := by decide +kernel
theorem dX2_keep_40 : decode cX2_keep 40 = .ok (.aload_n 0, 1) := by decide +kernel
theorem dX2_keep_41 : decode cX2_keep 41 = .ok (.getfield 30, 3) := by decide +kernel
theorem dX2_keep_44 : decode cX2_keep 44 = .ok (.iconst 1, 1) := by decide +kernel
theorem dX2_keep_45 : decode cX2_keep 45 = .ok (.iadd, 1) := by decide +kernel
theorem dX2_keep_46 : decode cX2_keep 46 = .ok (.iconst 4, 1) := by decide +kernel
theorem dX2_keep_47 : decode cX2_keep 47 = .ok (.irem, 1) := by decide +kernel
theorem dX2_keep_48 : decode cX2_keep 48 = .ok (.putfield 30, 3) := by decide +kernel
theorem dX2_keep_51 : decode cX2_keep 51 = .ok (.return_, 1) := by decide +kernel
theorem dX2_restore_0 : decode cX2_restore 0 = .ok (.aload_n 0, 1) := by decide +kernel
theorem dX2_restore_1 : decode cX2_restore 1 = .ok (.getfield 18, 3) := by decide +kernel
theorem dX2_restore_4 : decode cX2_restore 4 = .ok (.ifCond .le 31, 3) := by decide +kernel
theorem dX2_restore_7 : decode cX2_restore 7 = .ok (.aload_n 0, 1) := by decide +kernel
theorem dX2_restore_8 : decode cX2_restore 8 = .ok (.dup, 1) := by decide +kernel
theorem dX2_restore_9 : decode cX2_restore 9 = .ok (.getfield 18, 3) := by decide +kernel
theorem dX2_restore_12 : decode cX2_restore 12 = .ok (.iconst 1, 1) := by decide +kernel
theorem dX2_restore_13 : decode cX2_restore 13 = .ok (.isub, 1) := by decide +kernel
theorem dX2_restore_14 : decode cX2_restore 14 = .ok (.putfield 18, 3) := by decide +kernel
theorem dX2_restore_17 : decode cX2_restore 17 = .ok (.aload_n 0, 1) := by decide +kernel
theorem dX2_restore_18 : decode cX2_restore 18 = .ok (.aload_n 0, 1) := by decide +kernel
theorem dX2_restore_19 : decode cX2_restore 19 = .ok (.getfield 18, 3) := by decide +kernel
theorem dX2_restore_22 : decode cX2_restore 22 = .ok (.invokevirtual 22, 3) := by decide +kernel
theorem dX2_restore_25 : decode cX2_restore 25 = .ok (.astore_n 2, 1) := by decide +kernel
theorem dX2_restore_26 : decode cX2_restore 26 = .ok (.aload_n 2, 1) := by decide +kernel
theorem dX2_restore_27 : decode cX2_restore 27 = .ok (.ifnull 8, 3) := by decide +kernel
theorem dX2_restore_30 : decode cX2_restore 30 = .ok (.aload_n 1, 1) := by decide +kernel
theorem dX2_restore_31 : decode cX2_restore 31 = .ok (.aload_n 2, 1) := by decide +kernel
theorem dX2_restore_32 : decode cX2_restore 32 = .ok (.invokevirtual 26, 3) := by decide +kernel
theorem dX2_restore_35 : decode cX2_restore 35 = .ok (.return_, 1) := by decide +kernel
theorem dX2_placeOf_0 : decode cX2_placeOf 0 = .ok (.aload_n 0, 1) := by decide +kernel
theorem dX2_placeOf_1 : decode cX2_placeOf 1 = .ok (.getfield 30, 3) := by decide +kernel
theorem dX2_placeOf_4 : decode cX2_placeOf 4 = .ok (.iload_n 1, 1) := by decide +kernel
theorem dX2_placeOf_5 : decode cX2_placeOf 5 = .ok (.iadd, 1) := by decide +kernel
theorem dX2_placeOf_6 : decode cX2_placeOf 6 = .ok (.iconst 4, 1) := by decide +kernel
theorem dX2_placeOf_7 : decode cX2_placeOf 7 = .ok (.irem, 1) := by decide +kernel
theorem dX2_placeOf_8 : decode cX2_placeOf 8 = .ok (.istore_n 2, 1) := by decide +kernel
theorem dX2_placeOf_9 : decode cX2_placeOf 9 = .ok (.iload_n 2, 1) := by decide +kernel
theorem dX2_placeOf_10 : decode cX2_placeOf 10 = .ok (.ifCond .lt 21, 3) := by decide +kernel
theorem dX2_placeOf_13 : decode cX2_placeOf 13 = .ok (.iload_n 2, 1) := by decide +kernel
theorem dX2_placeOf_14 : decode cX2_placeOf 14 = .ok (.aload_n 0, 1) := by decide +kernel
theorem dX2_placeOf_15 : decode cX2_placeOf 15 = .ok (.getfield 11, 3) := by decide +kernel
theorem dX2_placeOf_18 : decode cX2_placeOf 18 = .ok (.arraylength, 1) := by decide +kernel
theorem dX2_placeOf_19 : decode cX2_placeOf 19 = .ok (.if_icmp .ge 12, 3) := by decide +kernel
theorem dX2_placeOf_22 : decode cX2_placeOf 22 = .ok (.aload_n 0, 1) := by decide +kernel
theorem dX2_placeOf_23 : decode cX2_placeOf 23 = .ok (.getfield 11, 3) := by decide +kernel
theorem dX2_placeOf_26 : decode cX2_placeOf 26 = .ok (.iload_n 2, 1) := by decide +kernel
theorem dX2_placeOf_27 : decode cX2_placeOf 27 = .ok (.aaload, 1) := by decide +kernel
theorem dX2_placeOf_28 : decode cX2_placeOf 28 = .ok (.goto 4, 3) := by decide +kernel
theorem dX2_placeOf_31 : decode cX2_placeOf 31 = .ok (.aconst_null, 1) := by decide +kernel
theorem dX2_placeOf_32 : decode cX2_placeOf 32 = .ok (.areturn, 1) := by decide +kernel
theorem dX3_init_0 : decode cX3_init 0 = .ok (.aload_n 0, 1) := by decide +kernel
theorem dX3_init_1 : decode cX3_init 1 = .ok (.invokespecial 3, 3) := by decide +kernel
theorem dX3_init_4 : decode cX3_init 4 = .ok (.aload_n 0, 1) := by decide +kernel
theorem dX3_init_5 : decode cX3_init 5 = .ok (.new 9, 3) := by decide +kernel
theorem dX3_init_8 : decode cX3_init 8 = .ok (.dup, 1) := by decide +kernel
theorem dX3_init_9 : decode cX3_init 9 = .ok (.bipush 60, 2) := by decide +kernel
theorem dX3_init_11 : decode cX3_init 11 = .ok (.invokespecial 11, 3) := by decide +kernel
theorem dX3_init_14 : decode cX3_init 14 = .ok (.putfield 14, 3) := by decide +kernel
theorem dX3_init_17 : decode cX3_init 17 = .ok (.aload_n 0, 1) := by decide +kernel
theorem dX3_init_18 : decode cX3_init 18 = .ok (.new 9, 3) := by decide +kernel
theorem dX3_init_21 : decode cX3_init 21 = .ok (.dup, 1) := by decide +kernel
theorem dX3_init_22 : decode cX3_init 22 = .ok (.bipush 60, 2) := by decide +kernel
theorem dX3_init_24 : decode cX3_init 24 = .ok (.invokespecial 11, 3) := by decide +kernel
theorem dX3_init_27 : decode cX3_init 27 = .ok (.putfield 20, 3) := by decide +kernel
theorem dX3_init_30 : decode cX3_init 30 = .ok (.aload_n 0, 1) := by decide +kernel
theorem dX3_init_31 : decode cX3_init 31 = .ok (.new 9, 3) := by decide +kernel
theorem dX3_init_34 : decode cX3_init 34 = .ok (.dup, 1) := by decide +kernel
theorem dX3_init_35 : decode cX3_init 35 = .ok (.bipush 60, 2) := by decide +kernel
theorem dX3_init_37 : decode cX3_init 37 = .ok (.invokespecial 11, 3) := by decide +kernel
theorem dX3_init_40 : decode cX3_init 40 = .ok (.putfield 23, 3) := by decide +kernel
theorem dX3_init_43 : decode cX3_init 43 = .ok (.return_, 1) := by decide +kernel
theorem dX3_size_0 : decode cX3_size 0 = .ok (.aload_n 0, 1) := by decide +kernel
theorem dX3_size_1 : decode cX3_size 1 = .ok (.getfield 26, 3) := by decide +kernel
theorem dX3_size_4 : decode cX3_size 4 = .ok (.ireturn, 1) := by decide +kernel
theorem dX3_empty_0 : decode cX3_empty 0 = .ok (.aload_n 0, 1) := by decide +kernel
theorem dX3_empty_1 : decode cX3_empty 1 = .ok (.iconst 0, 1) := by decide +kernel
theorem dX3_empty_2 : decode cX3_empty 2 = .ok (.putfield 30, 3) := by decide +kernel
theorem dX3_empty_5 : decode cX3_empty 5 = .ok (.aload_n 0, 1) := by decide +kernel
theorem dX3_empty_6 : decode cX3_empty 6 = .ok (.iconst 0, 1) := by decide +kernel
theorem dX3_empty_7 : decode cX3_empty 7 = .ok (.putfield 26, 3) := by decide +kernel
theorem dX3_empty_10 : decode cX3_empty 10 = .ok (.return_, 1) := by decide +kernel
theorem dX3_note_0 : decode cX3_note 0 = .ok (.aload_n 0, 1) := by decide +kernel
theorem dX3_note_1 : decode cX3_note 1 = .ok (.aload_n 0, 1) := by decide +kernel
theorem dX3_note_2 : decode cX3_note 2 = .ok (.getfield 26, 3) := by decide +kernel
theorem dX3_note_5 : decode cX3_note 5 = .ok (.invokevirtual 33, 3) := by decide +kernel
theorem dX3_note_8 : decode cX3_note 8 = .ok (.istore 4, 2) := by decide +kernel
theorem dX3_note_10 : decode cX3_note 10 = .ok (.aload_n 0, 1) := by decide +kernel
theorem dX3_note_11 : decode cX3_note 11 = .ok (.getfield 26, 3) := by decide +kernel
theorem dX3_note_14 : decode cX3_note 14 = .ok (.bipush 60, 2) := by decide +kernel
theorem dX3_note_16 : decode cX3_note 16 = .ok (.if_icmp .ge 16, 3) := by decide +kernel
theorem dX3_note_19 : decode cX3_note 19 = .ok (.aload_n 0, 1) := by decide +kernel
theorem dX3_note_20 : decode cX3_note 20 = .ok (.dup, 1) := by decide +kernel
theorem dX3_note_21 : decode cX3_note 21 = .ok (.getfield 26, 3) := by decide +kernel
theorem dX3_note_24 : decode cX3_note 24 = .ok (.iconst 1, 1) := by decide +kernel
theorem dX3_note_25 : decode cX3_note 25 = .ok (.iadd, 1) := by decide +kernel
theorem dX3_note_26 : decode cX3_note 26 = .ok (.putfield 26, 3) := by decide +kernel
theorem dX3_note_29 : decode cX3_note 29 = .ok (.goto 12, 3) := by decide +kernel
theorem dX3_note_32 : decode cX3_note 32 = .ok (.aload_n 0, 1) := by decide +kernel
theorem dX3_note_33 : decode cX3_note 33 = .ok (.aload_n 0, 1) := by decide +kernel
theorem dX3_note_34 : decode cX3_note 34 = .ok (.iconst 1, 1) := by decide +kernel
theorem dX3_note_35 : decode cX3_note 35 = .ok (.invokevirtual 33, 3) := by decide +kernel
theorem dX3_note_38 : decode cX3_note 38 = .ok (.putfield 30, 3) := by decide +kernel
theorem dX3_note_41 : decode cX3_note 41 = .ok (.aload_n 0, 1) := by decide +kernel
theorem dX3_note_42 : decode cX3_note 42 = .ok (.getfield 14, 3) := by decide +kernel
theorem dX3_note_45 : decode cX3_note 45 = .ok (.iload 4, 2) := by decide +kernel
theorem dX3_note_47 : decode cX3_note 47 = .ok (.iload_n 1, 1) := by decide +kernel
theorem dX3_note_48 : decode cX3_note 48 = .ok (.invokevirtual 37, 3) := by decide +kernel
theorem dX3_note_51 : decode cX3_note 51 = .ok (.aload_n 0, 1) := by decide +kernel
theorem dX3_note_52 : decode cX3_note 52 = .ok (.getfield 20, 3) := by decide +kernel
theorem dX3_note_55 : decode cX3_note 55 = .ok (.iload 4, 2) := by decide +kernel
theorem dX3_note_57 : decode cX3_note 57 = .ok (.iload_n 2, 1) := by decide +kernel
theorem dX3_note_58 : decode cX3_note 58 = .ok (.invokevirtual 37, 3) := by decide +kernel
theorem dX3_note_61 : decode cX3_note 61 = .ok (.aload_n 0, 1) := by decide +kernel
theorem dX3_note_62 : decode cX3_note 62 = .ok (.getfield 23, 3) := by decide +kernel
theorem dX3_note_65 : decode cX3_note 65 = .ok (.iload 4, 2) := by decide +kernel
theorem dX3_note_67 : decode cX3_note 67 = .ok (.iload_n 3, 1) := by decide +kernel
theorem dX3_note_68 : decode cX3_note 68 = .ok (.invokevirtual 37, 3) := by decide +kernel
theorem dX3_note_71 : decode cX3_note 71 = .ok (.return_, 1) := by decide +kernel
theorem dX3_about_0 : decode cX3_about 0 = .ok (.aload_n 0, 1) := by decide +kernel
theorem dX3_about_1 : decode cX3_about 1 = .ok (.iload_n 1, 1) := by decide +kernel
theorem dX3_about_2 : decode cX3_about 2 = .ok (.invokevirtual 33, 3) := by decide +kernel
theorem dX3_about_5 : decode cX3_about 5 = .ok (.istore_n 3, 1) := by decide +kernel
theorem dX3_about_6 : decode cX3_about 6 = .ok (.iload_n 2, 1) := by decide +kernel
theorem dX3_about_7 : decode cX3_about 7 = .ok (.lookupswitch 43 #[(0, 25), (1, 34)], 25) := by decide +kernel
theorem dX3_about_32 : decode cX3_about 32 = .ok (.aload_n 0, 1) := by decide +kernel
theorem dX3_about_33 : decode cX3_about 33 = .ok (.getfield 14, 3) := by decide +kernel
theorem dX3_about_36 : decode cX3_about 36 = .ok (.iload_n 3, 1) := by decide +kernel
theorem dX3_about_37 : decode cX3_about 37 = .ok (.invokevirtual 41, 3) := by decide +kernel
theorem dX3_about_40 : decode cX3_about 40 = .ok (.ireturn, 1) := by decide +kernel
theorem dX3_about_41 : decode cX3_about 41 = .ok (.aload_n 0, 1) := by decide +kernel
theorem dX3_about_42 : decode cX3_about 42 = .ok (.getfield 20, 3) := by decide +kernel
theorem dX3_about_45 : decode cX3_about 45 = .ok (.iload_n 3, 1) := by decide +kernel
theorem dX3_about_46 : decode cX3_about 46 = .ok (.invokevirtual 41, 3) := by decide +kernel
theorem dX3_about_49 : decode cX3_about 49 = .ok (.ireturn, 1) := by decide +kernel
theorem dX3_about_50 : decode cX3_about 50 = .ok (.aload_n 0, 1) := by decide +kernel
theorem dX3_about_51 : decode cX3_about 51 = .ok (.getfield 23, 3) := by decide +kernel
theorem dX3_about_54 : decode cX3_about 54 = .ok (.iload_n 3, 1) := by decide +kernel
theorem dX3_about_55 : decode cX3_about 55 = .ok (.invokevirtual 41, 3) := by decide +kernel
theorem dX3_about_58 : decode cX3_about 58 = .ok (.ireturn, 1) := by decide +kernel
theorem dX3_copy_0 : decode cX3_copy 0 = .ok (.aload_n 0, 1) := by decide +kernel
theorem dX3_copy_1 : decode cX3_copy 1 = .ok (.getfield 14, 3) := by decide +kernel
theorem dX3_copy_4 : decode cX3_copy 4 = .ok (.aload_n 1, 1) := by decide +kernel
theorem dX3_copy_5 : decode cX3_copy 5 = .ok (.getfield 14, 3) := by decide +kernel
theorem dX3_copy_8 : decode cX3_copy 8 = .ok (.invokevirtual 44, 3) := by decide +kernel
theorem dX3_copy_11 : decode cX3_copy 11 = .ok (.aload_n 0, 1) := by decide +kernel
theorem dX3_copy_12 : decode cX3_copy 12 = .ok (.getfield 20, 3) := by decide +kernel
theorem dX3_copy_15 : decode cX3_copy 15 = .ok (.aload_n 1, 1) := by decide +kernel
theorem dX3_copy_16 : decode cX3_copy 16 = .ok (.getfield 20, 3) := by decide +kernel
theorem dX3_copy_19 : decode cX3_copy 19 = .ok (.invokevirtual 44, 3) := by decide +kernel
theorem dX3_copy_22 : decode cX3_copy 22 = .ok (.aload_n 0, 1) := by decide +kernel
theorem dX3_copy_23 : decode cX3_copy 23 = .ok (.getfield 23, 3) := by decide +kernel
theorem dX3_copy_26 : decode cX3_copy 26 = .ok (.aload_n 1, 1) := by decide +kernel
theorem dX3_copy_27 : decode cX3_copy 27 = .ok (.getfield 23, 3) := by decide +kernel
theorem dX3_copy_30 : decode cX3_copy 30 = .ok (.invokevirtual 44, 3) := by decide +kernel
theorem dX3_copy_33 : decode cX3_copy 33 = .ok (.aload_n 0, 1) := by decide +kernel
theorem dX3_copy_34 : decode cX3_copy 34 = .ok (.aload_n 1, 1) := by decide +kernel
theorem dX3_copy_35 : decode cX3_copy 35 = .ok (.getfield 30, 3) := by decide +kernel
theorem dX3_copy_38 : decode cX3_copy 38 = .ok (.putfield 30, 3) := by decide +kernel
theorem dX3_copy_41 : decode cX3_copy 41 = .ok (.aload_n 0, 1) := by decide +kernel
theorem dX3_copy_42 : decode cX3_copy 42 = .ok (.aload_n 1, 1) := by decide +kernel
theorem dX3_copy_43 : decode cX3_copy 43 = .ok (.getfield 26, 3) := by decide +kernel
theorem dX3_copy_46 : decode cX3_copy 46 = .ok (.putfield 26, 3) := by decide +kernel
theorem dX3_copy_49 : decode cX3_copy 49 = .ok (.return_, 1) := by decide +kernel
theorem dX3_placeOf_0 : decode cX3_placeOf 0 = .ok (.aload_n 0, 1) := by decide +kernel
theorem dX3_placeOf_1 : decode cX3_placeOf 1 = .ok (.getfield 30, 3) := by decide +kernel
theorem dX3_placeOf_4 : decode cX3_placeOf 4 = .ok (.iload_n 1, 1) := by decide +kernel
theorem dX3_placeOf_5 : decode cX3_placeOf 5 = .ok (.iadd, 1) := by decide +kernel
theorem dX3_placeOf_6 : decode cX3_placeOf 6 = .ok (.bipush 60, 2) := by decide +kernel
theorem dX3_placeOf_8 : decode cX3_placeOf 8 = .ok (.irem, 1) := by decide +kernel
theorem dX3_placeOf_9 : decode cX3_placeOf 9 = .ok (.ireturn, 1) := by decide +kernel
theorem dX4_init_0 : decode cX4_init 0 = .ok (.aload_n 0, 1) := by decide +kernel
theorem dX4_init_1 : decode cX4_init 1 = .ok (.invokespecial 1, 3) := by decide +kernel
theorem dX4_init_4 : decode cX4_init 4 = .ok (.aload_n 0, 1) := by decide +kernel
theorem dX4_init_5 : decode cX4_init 5 = .ok (.iload_n 1, 1) := by decide +kernel
theorem dX4_init_6 : decode cX4_init 6 = .ok (.iconst 0, 1) := by decide +kernel
theorem dX4_init_7 : decode cX4_init 7 = .ok (.invokestatic 7, 3) := by decide +kernel
theorem dX4_init_10 : decode cX4_init 10 = .ok (.newarray .int, 2) := by decide +kernel
theorem dX4_init_12 : decode cX4_init 12 = .ok (.putfield 13, 3) := by decide +kernel
theorem dX4_init_15 : decode cX4_init 15 = .ok (.return_, 1) := by decide +kernel
theorem dX4_at_0 : decode cX4_at 0 = .ok (.iload_n 1, 1) := by decide +kernel
theorem dX4_at_1 : decode cX4_at 1 = .ok (.ifCond .lt 21, 3) := by decide +kernel
theorem dX4_at_4 : decode cX4_at 4 = .ok (.iload_n 1, 1) := by decide +kernel
theorem dX4_at_5 : decode cX4_at 5 = .ok (.aload_n 0, 1) := by decide +kernel
theorem dX4_at_6 : decode cX4_at 6 = .ok (.getfield 13, 3) := by decide +kernel
theorem dX4_at_9 : decode cX4_at 9 = .ok (.arraylength, 1) := by decide +kernel
theorem dX4_at_10 : decode cX4_at 10 = .ok (.if_icmp .ge 12, 3) := by decide +kernel
theorem dX4_at_13 : decode cX4_at 13 = .ok (.aload_n 0, 1) := by decide +kernel
theorem dX4_at_14 : decode cX4_at 14 = .ok (.getfield 13, 3) := by decide +kernel
theorem dX4_at_17 : decode cX4_at 17 = .ok (.iload_n 1, 1) := by decide +kernel
theorem dX4_at_18 : decode cX4_at 18 = .ok (.iaload, 1) := by decide +kernel
theorem dX4_at_19 : decode cX4_at 19 = .ok (.goto 4, 3) := by decide +kernel
theorem dX4_at_22 : decode cX4_at 22 = .ok (.iconst 0, 1) := by decide +kernel
theorem dX4_at_23 : decode cX4_at 23 = .ok (.ireturn, 1) := by decide +kernel
theorem dX4_put_0 : decode cX4_put 0 = .ok (.iload_n 1, 1) := by decide +kernel
theorem dX4_put_1 : decode cX4_put 1 = .ok (.ifCond .lt 19, 3) := by decide +kernel
theorem dX4_put_4 : decode cX4_put 4 = .ok (.iload_n 1, 1) := by decide +kernel
theorem dX4_put_5 : decode cX4_put 5 = .ok (.aload_n 0, 1) := by decide +kernel
theorem dX4_put_6 : decode cX4_put 6 = .ok (.getfield 13, 3) := by decide +kernel
theorem dX4_put_9 : decode cX4_put 9 = .ok (.arraylength, 1) := by decide +kernel
theorem dX4_put_10 : decode cX4_put 10 = .ok (.if_icmp .ge 10, 3) := by decide +kernel
theorem dX4_put_13 : decode cX4_put 13 = .ok (.aload_n 0, 1) := by decide +kernel
theorem dX4_put_14 : decode cX4_put 14 = .ok (.getfield 13, 3) := by decide +kernel
theorem dX4_put_17 : decode cX4_put 17 = .ok (.iload_n 1, 1) := by decide +kernel
theorem dX4_put_18 : decode cX4_put 18 = .ok (.iload_n 2, 1) := by decide +kernel
theorem dX4_put_19 : decode cX4_put 19 = .ok (.iastore, 1) := by decide +kernel
theorem dX4_put_20 : decode cX4_put 20 = .ok (.return_, 1) := by decide +kernel
theorem dX4_raise_0 : decode cX4_raise 0 = .ok (.iload_n 1, 1) := by decide +kernel
theorem dX4_raise_1 : decode cX4_raise 1 = .ok (.ifCond .lt 22, 3) := by decide +kernel
theorem dX4_raise_4 : decode cX4_raise 4 = .ok (.iload_n 1, 1) := by decide +kernel
theorem dX4_raise_5 : decode cX4_raise 5 = .ok (.aload_n 0, 1) := by decide +kernel
theorem dX4_raise_6 : decode cX4_raise 6 = .ok (.getfield 13, 3) := by decide +kernel
theorem dX4_raise_9 : decode cX4_raise 9 = .ok (.arraylength, 1) := by decide +kernel
theorem dX4_raise_10 : decode cX4_raise 10 = .ok (.if_icmp .ge 13, 3) := by decide +kernel
theorem dX4_raise_13 : decode cX4_raise 13 = .ok (.aload_n 0, 1) := by decide +kernel
theorem dX4_raise_14 : decode cX4_raise 14 = .ok (.getfield 13, 3) := by decide +kernel
theorem dX4_raise_17 : decode cX4_raise 17 = .ok (.iload_n 1, 1) := by decide +kernel
theorem dX4_raise_18 : decode cX4_raise 18 = .ok (.dup2, 1) := by decide +kernel
theorem dX4_raise_19 : decode cX4_raise 19 = .ok (.iaload, 1) := by decide +kernel
theorem dX4_raise_20 : decode cX4_raise 20 = .ok (.iload_n 2, 1) := by decide +kernel
theorem dX4_raise_21 : decode cX4_raise 21 = .ok (.iadd, 1) := by decide +kernel
theorem dX4_raise_22 : decode cX4_raise 22 = .ok (.iastore, 1) := by decide +kernel
theorem dX4_raise_23 : decode cX4_raise 23 = .ok (.return_, 1) := by decide +kernel
theorem dX4_fill_0 : decode cX4_fill 0 = .ok (.iconst 0, 1) := by decide +kernel
theorem dX4_fill_1 : decode cX4_fill 1 = .ok (.istore_n 2, 1) := by decide +kernel
theorem dX4_fill_2 : decode cX4_fill 2 = .ok (.iload_n 2, 1) := by decide +kernel
theorem dX4_fill_3 : decode cX4_fill 3 = .ok (.aload_n 0, 1) := by decide +kernel
theorem dX4_fill_4 : decode cX4_fill 4 = .ok (.getfield 13, 3) := by decide +kernel
theorem dX4_fill_7 : decode cX4_fill 7 = .ok (.arraylength, 1) := by decide +kernel
theorem dX4_fill_8 : decode cX4_fill 8 = .ok (.if_icmp .ge 16, 3) := by decide +kernel
theorem dX4_fill_11 : decode cX4_fill 11 = .ok (.aload_n 0, 1) := by decide +kernel
theorem dX4_fill_12 : decode cX4_fill 12 = .ok (.getfield 13, 3) := by decide +kernel
theorem dX4_fill_15 : decode cX4_fill 15 = .ok (.iload_n 2, 1) := by decide +kernel
theorem dX4_fill_16 : decode cX4_fill 16 = .ok (.iload_n 1, 1) := by decide +kernel
theorem dX4_fill_17 : decode cX4_fill 17 = .ok (.iastore, 1) := by decide +kernel
theorem dX4_fill_18 : decode cX4_fill 18 = .ok (.iinc 2 1, 3) := by decide +kernel
theorem dX4_fill_21 : decode cX4_fill 21 = .ok (.goto (-19), 3) := by decide +kernel
theorem dX4_fill_24 : decode cX4_fill 24 = .ok (.return_, 1) := by decide +kernel
theorem dX4_copy_0 : decode cX4_copy 0 = .ok (.iconst 0, 1) := by decide +kernel
theorem dX4_copy_1 : decode cX4_copy 1 = .ok (.istore_n 2, 1) := by decide +kernel
theorem dX4_copy_2 : decode cX4_copy 2 = .ok (.iload_n 2, 1) := by decide +kernel
theorem dX4_copy_3 : decode cX4_copy 3 = .ok (.aload_n 0, 1) := by decide +kernel
theorem dX4_copy_4 : decode cX4_copy 4 = .ok (.getfield 13, 3) := by decide +kernel
theorem dX4_copy_7 : decode cX4_copy 7 = .ok (.arraylength, 1) := by decide +kernel
theorem dX4_copy_8 : decode cX4_copy 8 = .ok (.if_icmp .ge 20, 3) := by decide +kernel
theorem dX4_copy_11 : decode cX4_copy 11 = .ok (.aload_n 0, 1) := by decide +kernel
theorem dX4_copy_12 : decode cX4_copy 12 = .ok (.getfield 13, 3) := by decide +kernel
theorem dX4_copy_15 : decode cX4_copy 15 = .ok (.iload_n 2, 1) := by decide +kernel
theorem dX4_copy_16 : decode cX4_copy 16 = .ok (.aload_n 1, 1) := by decide +kernel
theorem dX4_copy_17 : decode cX4_copy 17 = .ok (.iload_n 2, 1) := by decide +kernel
theorem dX4_copy_18 : decode cX4_copy 18 = .ok (.invokevirtual 19, 3) := by decide +kernel
theorem dX4_copy_21 : decode cX4_copy 21 = .ok (.iastore, 1) := by decide +kernel
theorem dX4_copy_22 : decode cX4_copy 22 = .ok (.iinc 2 1, 3) := by decide +kernel
theorem dX4_copy_25 : decode cX4_copy 25 = .ok (.goto (-23), 3) := by decide +kernel
theorem dX4_copy_28 : decode cX4_copy 28 = .ok (.return_, 1) := by decide +kernel
theorem dX5_init_0 : decode cX5_init 0 = .ok (.aload_n 0, 1) := by decide +kernel
theorem dX5_init_1 : decode cX5_init 1 = .ok (.invokespecial 3, 3) := by decide +kernel
theorem dX5_init_4 : decode cX5_init 4 = .ok (.aload_n 0, 1) := by decide +kernel
theorem dX5_init_5 : decode cX5_init 5 = .ok (.new 9, 3) := by decide +kernel
theorem dX5_init_8 : decode cX5_init 8 = .ok (.dup, 1) := by decide +kernel
theorem dX5_init_9 : decode cX5_init 9 = .ok (.bipush 8, 2) := by decide +kernel
theorem dX5_init_11 : decode cX5_init 11 = .ok (.invokespecial 11, 3) := by decide +kernel
theorem dX5_init_14 : decode cX5_init 14 = .ok (.putfield 14, 3) := by decide +kernel
theorem dX5_init_17 : decode cX5_init 17 = .ok (.aload_n 0, 1) := by decide +kernel
theorem dX5_init_18 : decode cX5_init 18 = .ok (.new 9, 3) := by decide +kernel
theorem dX5_init_21 : decode cX5_init 21 = .ok (.dup, 1) := by decide +kernel
theorem dX5_init_22 : decode cX5_init 22 = .ok (.bipush 8, 2) := by decide +kernel
theorem dX5_init_24 : decode cX5_init 24 = .ok (.invokespecial 11, 3) := by decide +kernel
theorem dX5_init_27 : decode cX5_init 27 = .ok (.putfield 20, 3) := by decide +kernel
theorem dX5_init_30 : decode cX5_init 30 = .ok (.aload_n 0, 1) := by decide +kernel
theorem dX5_init_31 : decode cX5_init 31 = .ok (.new 9, 3) := by decide +kernel
theorem dX5_init_34 : decode cX5_init 34 = .ok (.dup, 1) := by decide +kernel
theorem dX5_init_35 : decode cX5_init 35 = .ok (.bipush 8, 2) := by decide +kernel
theorem dX5_init_37 : decode cX5_init 37 = .ok (.invokespecial 11, 3) := by decide +kernel
theorem dX5_init_40 : decode cX5_init 40 = .ok (.putfield 23, 3) := by decide +kernel
theorem dX5_init_43 : decode cX5_init 43 = .ok (.aload_n 0, 1) := by decide +kernel
theorem dX5_init_44 : decode cX5_init 44 = .ok (.new 9, 3) := by decide +kernel
theorem dX5_init_47 : decode cX5_init 47 = .ok (.dup, 1) := by decide +kernel
theorem dX5_init_48 : decode cX5_init 48 = .ok (.bipush 8, 2) := by decide +kernel
theorem dX5_init_50 : decode cX5_init 50 = .ok (.invokespecial 11, 3) := by decide +kernel
theorem dX5_init_53 : decode cX5_init 53 = .ok (.putfield 26, 3) := by decide +kernel
theorem dX5_init_56 : decode cX5_init 56 = .ok (.aload_n 0, 1) := by decide +kernel
theorem dX5_init_57 : decode cX5_init 57 = .ok (.new 9, 3) := by decide +kernel
theorem dX5_init_60 : decode cX5_init 60 = .ok (.dup, 1) := by decide +kernel
theorem dX5_init_61 : decode cX5_init 61 = .ok (.bipush 8, 2) := by decide +kernel
theorem dX5_init_63 : decode cX5_init 63 = .ok (.invokespecial 11, 3) := by decide +kernel
theorem dX5_init_66 : decode cX5_init 66 = .ok (.putfield 29, 3) := by decide +kernel
theorem dX5_init_69 : decode cX5_init 69 = .ok (.aload_n 0, 1) := by decide +kernel
theorem dX5_init_70 : decode cX5_init 70 = .ok (.new 9, 3) := by decide +kernel
theorem dX5_init_73 : decode cX5_init 73 = .ok (.dup, 1) := by decide +kernel
theorem dX5_init_74 : decode cX5_init 74 = .ok (.bipush 24, 2) := by decide +kernel
theorem dX5_init_76 : decode cX5_init 76 = .ok (.invokespecial 11, 3) := by decide +kernel
theorem dX5_init_79 : decode cX5_init 79 = .ok (.putfield 32, 3) := by decide +kernel
theorem dX5_init_82 : decode cX5_init 82 = .ok (.aload_n 0, 1) := by decide +kernel
theorem dX5_init_83 : decode cX5_init 83 = .ok (.new 35, 3) := by decide +kernel
theorem dX5_init_86 : decode cX5_init 86 = .ok (.dup, 1) := by decide +kernel
theorem dX5_init_87 : decode cX5_init 87 = .ok (.invokespecial 37, 3) := by decide +kernel
theorem dX5_init_90 : decode cX5_init 90 = .ok (.putfield 38, 3) := by decide +kernel
theorem dX5_init_93 : decode cX5_init 93 = .ok (.iconst 0, 1) := by decide +kernel
theorem dX5_init_94 : decode cX5_init 94 = .ok (.istore_n 1, 1) := by decide +kernel
theorem dX5_init_95 : decode cX5_init 95 = .ok (.iload_n 1, 1) := by decide +kernel
theorem dX5_init_96 : decode cX5_init 96 = .ok (.getstatic 42, 3) := by decide +kernel
theorem dX5_init_99 : decode cX5_init 99 = .ok (.arraylength, 1) := by decide +kernel
theorem dX5_init_100 : decode cX5_init 100 = .ok (.if_icmp .ge 22, 3) := by decide +kernel
theorem dX5_init_103 : decode cX5_init 103 = .ok (.aload_n 0, 1) := by decide +kernel
theorem dX5_init_104 : decode cX5_init 104 = .ok (.getfield 14, 3) := by decide +kernel
theorem dX5_init_107 : decode cX5_init 107 = .ok (.iload_n 1, 1) := by decide +kernel
theorem dX5_init_108 : decode cX5_init 108 = .ok (.getstatic 42, 3) := by decide +kernel
theorem dX5_init_111 : decode cX5_init 111 = .ok (.iload_n 1, 1) := by decide +kernel
theorem dX5_init_112 : decode cX5_init 112 = .ok (.iaload, 1) := by decide +kernel
theorem dX5_init_113 : decode cX5_init 113 = .ok (.invokevirtual 46, 3) := by decide +kernel
theorem dX5_init_116 : decode cX5_init 116 = .ok (.iinc 1 1, 3) := by decide +kernel
theorem dX5_init_119 : decode cX5_init 119 = .ok (.goto (-24), 3) := by decide +kernel
theorem dX5_init_122 : decode cX5_init 122 = .ok (.aload_n 0, 1) := by decide +kernel
theorem dX5_init_123 : decode cX5_init 123 = .ok (.iconst 1, 1) := by decide +kernel
theorem dX5_init_124 : decode cX5_init 124 = .ok (.putfield 50, 3) := by decide +kernel
theorem dX5_init_127 : decode cX5_init 127 = .ok (.aload_n 0, 1) := by decide +kernel
theorem dX5_init_128 : decode cX5_init 128 = .ok (.iconst 0, 1) := by decide +kernel
theorem dX5_init_129 : decode cX5_init 129 = .ok (.putfield 54, 3) := by decide +kernel
theorem dX5_init_132 : decode cX5_init 132 = .ok (.aload_n 0, 1) := by decide +kernel
theorem dX5_init_133 : decode cX5_init 133 = .ok (.iconst 4, 1) := by decide +kernel
theorem dX5_init_134 : decode cX5_init 134 = .ok (.invokevirtual 58, 3) := by decide +kernel
theorem dX5_init_137 : decode cX5_init 137 = .ok (.return_, 1) := by decide +kernel
theorem dX5_restart_0 : decode cX5_restart 0 = .ok (.aload_n 0, 1) := by decide +kernel
theorem dX5_restart_1 : decode cX5_restart 1 = .ok (.iload_n 1, 1) := by decide +kernel
theorem dX5_restart_2 : decode cX5_restart 2 = .ok (.putfield 61, 3) := by decide +kernel
theorem dX5_restart_5 : decode cX5_restart 5 = .ok (.aload_n 0, 1) := by decide +kernel
theorem dX5_restart_6 : decode cX5_restart 6 = .ok (.getfield 20, 3) := by decide +kernel
theorem dX5_restart_9 : decode cX5_restart 9 = .ok (.iconst 0, 1) := by decide +kernel
theorem dX5_restart_10 : decode cX5_restart 10 = .ok (.invokevirtual 64, 3) := by decide +kernel
theorem dX5_restart_13 : decode cX5_restart 13 = .ok (.aload_n 0, 1) := by decide +kernel
theorem dX5_restart_14 : decode cX5_restart 14 = .ok (.getfield 23, 3) := by decide +kernel
theorem dX5_restart_17 : decode cX5_restart 17 = .ok (.ldc 67, 2) := by decide +kernel
theorem dX5_restart_19 : decode cX5_restart 19 = .ok (.invokevirtual 64, 3) := by decide +kernel
theorem dX5_restart_22 : decode cX5_restart 22 = .ok (.aload_n 0, 1) := by decide +kernel
theorem dX5_restart_23 : decode cX5_restart 23 = .ok (.getfield 26, 3) := by decide +kernel
theorem dX5_restart_26 : decode cX5_restart 26 = .ok (.iconst 0, 1) := by decide +kernel
theorem dX5_restart_27 : decode cX5_restart 27 = .ok (.invokevirtual 64, 3) := by decide +kernel
theorem dX5_restart_30 : decode cX5_restart 30 = .ok (.aload_n 0, 1) := by decide +kernel
theorem dX5_restart_31 : decode cX5_restart 31 = .ok (.getfield 29, 3) := by decide +kernel
theorem dX5_restart_34 : decode cX5_restart 34 = .ok (.iconst 0, 1) := by decide +kernel
theorem dX5_restart_35 : decode cX5_restart 35 = .ok (.invokevirtual 64, 3) := by decide +kernel
theorem dX5_restart_38 : decode cX5_restart 38 = .ok (.aload_n 0, 1) := by decide +kernel
theorem dX5_restart_39 : decode cX5_restart 39 = .ok (.getfield 32, 3) := by decide +kernel
theorem dX5_restart_42 : decode cX5_restart 42 = .ok (.iconst 0, 1) := by decide +kernel
theorem dX5_restart_43 : decode cX5_restart 43 = .ok (.invokevirtual 64, 3) := by decide +kernel
theorem dX5_restart_46 : decode cX5_restart 46 = .ok (.aload_n 0, 1) := by decide +kernel
theorem dX5_restart_47 : decode cX5_restart 47 = .ok (.getfield 38, 3) := by decide +kernel
theorem dX5_restart_50 : decode cX5_restart 50 = .ok (.invokevirtual 68, 3) := by decide +kernel
theorem dX5_restart_53 : decode cX5_restart 53 = .ok (.aload_n 0, 1) := by decide +kernel
theorem dX5_restart_54 : decode cX5_restart 54 = .ok (.iconst 0, 1) := by decide +kernel
theorem dX5_restart_55 : decode cX5_restart 55 = .ok (.putfield 71, 3) := by decide +kernel
theorem dX5_restart_58 : decode cX5_restart 58 = .ok (.aload_n 0, 1) := by decide +kernel
theorem dX5_restart_59 : decode cX5_restart 59 = .ok (.iconst (-1), 1) := by decide +kernel
theorem dX5_restart_60 : decode cX5_restart 60 = .ok (.putfield 74, 3) := by decide +kernel
theorem dX5_restart_63 : decode cX5_restart 63 = .ok (.aload_n 0, 1) := by decide +kernel
theorem dX5_restart_64 : decode cX5_restart 64 = .ok (.iconst 0, 1) := by decide +kernel
theorem dX5_restart_65 : decode cX5_restart 65 = .ok (.putfield 77, 3) := by decide +kernel
theorem dX5_restart_68 : decode cX5_restart 68 = .ok (.aload_n 0, 1) := by decide +kernel
theorem dX5_restart_69 : decode cX5_restart 69 = .ok (.iconst 0, 1) := by decide +kernel
theorem dX5_restart_70 : decode cX5_restart 70 = .ok (.putfield 80, 3) := by decide +kernel
theorem dX5_restart_73 : decode cX5_restart 73 = .ok (.aload_n 0, 1) := by decide +kernel
theorem dX5_restart_74 : decode cX5_restart 74 = .ok (.iconst 0, 1) := by decide +kernel
theorem dX5_restart_75 : decode cX5_restart 75 = .ok (.putfield 83, 3) := by decide +kernel
theorem dX5_restart_78 : decode cX5_restart 78 = .ok (.aload_n 0, 1) := by decide +kernel
theorem dX5_restart_79 : decode cX5_restart 79 = .ok (.iconst 0, 1) := by decide +kernel
theorem dX5_restart_80 : decode cX5_restart 80 = .ok (.putfield 86, 3) := by decide +kernel
theorem dX5_restart_83 : decode cX5_restart 83 = .ok (.aload_n 0, 1) := by decide +kernel
theorem dX5_restart_84 : decode cX5_restart 84 = .ok (.iconst 0, 1) := by decide +kernel
theorem dX5_restart_85 : decode cX5_restart 85 = .ok (.putfield 89, 3) := by decide +kernel
theorem dX5_restart_88 : decode cX5_restart 88 = .ok (.return_, 1) := by decide +kernel
theorem dX5_copy_0 : decode cX5_copy 0 = .ok (.aload_n 0, 1) := by decide +kernel
theorem dX5_copy_1 : decode cX5_copy 1 = .ok (.getfield 14, 3) := by decide +kernel
theorem dX5_copy_4 : decode cX5_copy 4 = .ok (.aload_n 1, 1) := by decide +kernel
theorem dX5_copy_5 : decode cX5_copy 5 = .ok (.getfield 14, 3) := by decide +kernel
theorem dX5_copy_8 : decode cX5_copy 8 = .ok (.invokevirtual 92, 3) := by decide +kernel
theorem dX5_copy_11 : decode cX5_copy 11 = .ok (.aload_n 0, 1) := by decide +kernel
theorem dX5_copy_12 : decode cX5_copy 12 = .ok (.getfield 20, 3) := by decide +kernel
theorem dX5_copy_15 : decode cX5_copy 15 = .ok (.aload_n 1, 1) := by decide +kernel
theorem dX5_copy_16 : decode cX5_copy 16 = .ok (.getfield 20, 3) := by decide +kernel
theorem dX5_copy_19 : decode cX5_copy 19 = .ok (.invokevirtual 92, 3) := by decide +kernel
theorem dX5_copy_22 : decode cX5_copy 22 = .ok (.aload_n 0, 1) := by decide +kernel
theorem dX5_copy_23 : decode cX5_copy 23 = .ok (.getfield 23, 3) := by decide +kernel
theorem dX5_copy_26 : decode cX5_copy 26 = .ok (.aload_n 1, 1) := by decide +kernel
theorem dX5_copy_27 : decode cX5_copy 27 = .ok (.getfield 23, 3) := by decide +kernel
theorem dX5_copy_30 : decode cX5_copy 30 = .ok (.invokevirtual 92, 3) := by decide +kernel
theorem dX5_copy_33 : decode cX5_copy 33 = .ok (.aload_n 0, 1) := by decide +kernel
theorem dX5_copy_34 : decode cX5_copy 34 = .ok (.getfield 26, 3) := by decide +kernel
theorem dX5_copy_37 : decode cX5_copy 37 = .ok (.aload_n 1, 1) := by decide +kernel
theorem dX5_copy_38 : decode cX5_copy 38 = .ok (.getfield 26, 3) := by decide +kernel
theorem dX5_copy_41 : decode cX5_copy 41 = .ok (.invokevirtual 92, 3) := by decide +kernel
theorem dX5_copy_44 : decode cX5_copy 44 = .ok (.aload_n 0, 1) := by decide +kernel
theorem dX5_copy_45 : decode cX5_copy 45 = .ok (.getfield 29, 3) := by decide +kernel
theorem dX5_copy_48 : decode cX5_copy 48 = .ok (.aload_n 1, 1) := by decide +kernel
theorem dX5_copy_49 : decode cX5_copy 49 = .ok (.getfield 29, 3) := by decide +kernel
theorem dX5_copy_52 : decode cX5_copy 52 = .ok (.invokevirtual 92, 3) := by decide +kernel
theorem dX5_copy_55 : decode cX5_copy 55 = .ok (.aload_n 0, 1) := by decide +kernel
theorem dX5_copy_56 : decode cX5_copy 56 = .ok (.getfield 32, 3) := by decide +kernel
theorem dX5_copy_59 : decode cX5_copy 59 = .ok (.aload_n 1, 1) := by decide +kernel
theorem dX5_copy_60 : decode cX5_copy 60 = .ok (.getfield 32, 3) := by decide +kernel
theorem dX5_copy_63 : decode cX5_copy 63 = .ok (.invokevirtual 92, 3) := by decide +kernel
theorem dX5_copy_66 : decode cX5_copy 66 = .ok (.aload_n 0, 1) := by decide +kernel
theorem dX5_copy_67 : decode cX5_copy 67 = .ok (.getfield 38, 3) := by decide +kernel
theorem dX5_copy_70 : decode cX5_copy 70 = .ok (.aload_n 1, 1) := by decide +kernel
theorem dX5_copy_71 : decode cX5_copy 71 = .ok (.getfield 38, 3) := by decide +kernel
theorem dX5_copy_74 : decode cX5_copy 74 = .ok (.invokevirtual 96, 3) := by decide +kernel
theorem dX5_copy_77 : decode cX5_copy 77 = .ok (.aload_n 0, 1) := by decide +kernel
theorem dX5_copy_78 : decode cX5_copy 78 = .ok (.aload_n 1, 1) := by decide +kernel
theorem dX5_copy_79 : decode cX5_copy 79 = .ok (.getfield 61, 3) := by decide +kernel
theorem dX5_copy_82 : decode cX5_copy 82 = .ok (.putfield 61, 3) := by decide +kernel
theorem dX5_copy_85 : decode cX5_copy 85 = .ok (.aload_n 0, 1) := by decide +kernel
theorem dX5_copy_86 : decode cX5_copy 86 = .ok (.aload_n 1, 1) := by decide +kernel
theorem dX5_copy_87 : decode cX5_copy 87 = .ok (.getfield 71, 3) := by decide +kernel
theorem dX5_copy_90 : decode cX5_copy 90 = .ok (.putfield 71, 3) := by decide +kernel
theorem dX5_copy_93 : decode cX5_copy 93 = .ok (.aload_n 0, 1) := by decide +kernel
theorem dX5_copy_94 : decode cX5_copy 94 = .ok (.aload_n 1, 1) := by decide +kernel
theorem dX5_copy_95 : decode cX5_copy 95 = .ok (.getfield 74, 3) := by decide +kernel
theorem dX5_copy_98 : decode cX5_copy 98 = .ok (.putfield 74, 3) := by decide +kernel
theorem dX5_copy_101 : decode cX5_copy 101 = .ok (.aload_n 0, 1) := by decide +kernel
theorem dX5_copy_102 : decode cX5_copy 102 = .ok (.aload_n 1, 1) := by decide +kernel
theorem dX5_copy_103 : decode cX5_copy 103 = .ok (.getfield 77, 3) := by decide +kernel
theorem dX5_copy_106 : decode cX5_copy 106 = .ok (.putfield 77, 3) := by decide +kernel
theorem dX5_copy_109 : decode cX5_copy 109 = .ok (.aload_n 0, 1) := by decide +kernel
theorem dX5_copy_110 : decode cX5_copy 110 = .ok (.aload_n 1, 1) := by decide +kernel
theorem dX5_copy_111 : decode cX5_copy 111 = .ok (.getfield 80, 3) := by decide +kernel
theorem dX5_copy_114 : decode cX5_copy 114 = .ok (.putfield 80, 3) := by decide +kernel
theorem dX5_copy_117 : decode cX5_copy 117 = .ok (.aload_n 0, 1) := by decide +kernel
theorem dX5_copy_118 : decode cX5_copy 118 = .ok (.aload_n 1, 1) := by decide +kernel
theorem dX5_copy_119 : decode cX5_copy 119 = .ok (.getfield 83, 3) := by decide +kernel
theorem dX5_copy_122 : decode cX5_copy 122 = .ok (.putfield 83, 3) := by decide +kernel
theorem dX5_copy_125 : decode cX5_copy 125 = .ok (.aload_n 0, 1) := by decide +kernel
theorem dX5_copy_126 : decode cX5_copy 126 = .ok (.aload_n 1, 1) := by decide +kernel
theorem dX5_copy_127 : decode cX5_copy 127 = .ok (.getfield 86, 3) := by decide +kernel
theorem dX5_copy_130 : decode cX5_copy 130 = .ok (.putfield 86, 3) := by decide +kernel
theorem dX5_copy_133 : decode cX5_copy 133 = .ok (.aload_n 0, 1) := by decide +kernel
theorem dX5_copy_134 : decode cX5_copy 134 = .ok (.aload_n 1, 1) := by decide +kernel
theorem dX5_copy_135 : decode cX5_copy 135 = .ok (.getfield 89, 3) := by decide +kernel
theorem dX5_copy_138 : decode cX5_copy 138 = .ok (.putfield 89, 3) := by decide +kernel
theorem dX5_copy_141 : decode cX5_copy 141 = .ok (.aload_n 0, 1) := by decide +kernel
theorem dX5_copy_142 : decode cX5_copy 142 = .ok (.aload_n 1, 1) := by decide +kernel
theorem dX5_copy_143 : decode cX5_copy 143 = .ok (.getfield 50, 3) := by decide +kernel
theorem dX5_copy_146 : decode cX5_copy 146 = .ok (.putfield 50, 3) := by decide +kernel
theorem dX5_copy_149 : decode cX5_copy 149 = .ok (.aload_n 0, 1) := by decide +kernel
theorem dX5_copy_150 : decode cX5_copy 150 = .ok (.aload_n 1, 1) := by decide +kernel
theorem dX5_copy_151 : decode cX5_copy 151 = .ok (.getfield 54, 3) := by decide +kernel
theorem dX5_copy_154 : decode cX5_copy 154 = .ok (.putfield 54, 3) := by decide +kernel
theorem dX5_copy_157 : decode cX5_copy 157 = .ok (.return_, 1) := by decide +kernel
theorem dX5_settingOrCylinders_0 : decode cX5_settingOrCylinders 0 = .ok (.iload_n 1, 1) := by decide +kernel
theorem dX5_settingOrCylinders_1 : decode cX5_settingOrCylinders 1 = .ok (.bipush 8, 2) := by decide +kernel
theorem dX5_settingOrCylinders_3 : decode cX5_settingOrCylinders 3 = .ok (.if_icmp .ne 10, 3) := by decide +kernel
theorem dX5_settingOrCylinders_6 : decode cX5_settingOrCylinders 6 = .ok (.aload_n 0, 1) := by decide +kernel
theorem dX5_settingOrCylinders_7 : decode cX5_settingOrCylinders 7 = .ok (.getfield 61, 3) := by decide +kernel
theorem dX5_settingOrCylinders_10 : decode cX5_settingOrCylinders 10 = .ok (.goto 11, 3) := by decide +kernel
theorem dX5_settingOrCylinders_13 : decode cX5_settingOrCylinders 13 = .ok (.aload_n 0, 1) := by decide +kernel
theorem dX5_settingOrCylinders_14 : decode cX5_settingOrCylinders 14 = .ok (.getfield 14, 3) := by decide +kernel
theorem dX5_settingOrCylinders_17 : decode cX5_settingOrCylinders 17 = .ok (.iload_n 1, 1) := by decide +kernel
theorem dX5_settingOrCylinders_18 : decode cX5_settingOrCylinders 18 = .ok (.invokevirtual 99, 3) := by decide +kernel
theorem dX5_settingOrCylinders_21 : decode cX5_settingOrCylinders 21 = .ok (.ireturn, 1) := by decide +kernel
theorem dX5_aboutCylinder_0 : decode cX5_aboutCylinder 0 = .ok (.iload_n 2, 1) := by decide +kernel
theorem dX5_aboutCylinder_1 : decode cX5_aboutCylinder 1 = .ok (.tableswitch 64 0 3 #[31, 40, 49, 58], 31) := by decide +kernel
theorem dX5_aboutCylinder_32 : decode cX5_aboutCylinder 32 = .ok (.aload_n 0, 1) := by decide +kernel
theorem dX5_aboutCylinder_33 : decode cX5_aboutCylinder 33 = .ok (.getfield 20, 3) := by decide +kernel
theorem dX5_aboutCylinder_36 : decode cX5_aboutCylinder 36 = .ok (.iload_n 1, 1) := by decide +kernel
theorem dX5_aboutCylinder_37 : decode cX5_aboutCylinder 37 = .ok (.invokevirtual 99, 3) := by decide +kernel
theorem dX5_aboutCylinder_40 : decode cX5_aboutCylinder 40 = .ok (.ireturn, 1) := by decide +kernel
theorem dX5_aboutCylinder_41 : decode cX5_aboutCylinder 41 = .ok (.aload_n 0, 1) := by decide +kernel
theorem dX5_aboutCylinder_42 : decode cX5_aboutCylinder 42 = .ok (.getfield 23, 3) := by decide +kernel
theorem dX5_aboutCylinder_45 : decode cX5_aboutCylinder 45 = .ok (.iload_n 1, 1) := by decide +kernel
theorem dX5_aboutCylinder_46 : decode cX5_aboutCylinder 46 = .ok (.invokevirtual 99, 3) := by decide +kernel
theorem dX5_aboutCylinder_49 : decode cX5_aboutCylinder 49 = .ok (.ireturn, 1) := by decide +kernel
theorem dX5_aboutCylinder_50 : decode cX5_aboutCylinder 50 = .ok (.aload_n 0, 1) := by decide +kernel
theorem dX5_aboutCylinder_51 : decode cX5_aboutCylinder 51 = .ok (.getfield 26, 3) := by decide +kernel
theorem dX5_aboutCylinder_54 : decode cX5_aboutCylinder 54 = .ok (.iload_n 1, 1) := by decide +kernel
theorem dX5_aboutCylinder_55 : decode cX5_aboutCylinder 55 = .ok (.invokevirtual 99, 3) := by decide +kernel
theorem dX5_aboutCylinder_58 : decode cX5_aboutCylinder 58 = .ok (.ireturn, 1) := by decide +kernel
theorem dX5_aboutCylinder_59 : decode cX5_aboutCylinder 59 = .ok (.aload_n 0, 1) := by decide +kernel
theorem dX5_aboutCylinder_60 : decode cX5_aboutCylinder 60 = .ok (.iload_n 1, 1) := by decide +kernel
theorem dX5_aboutCylinder_61 : decode cX5_aboutCylinder 61 = .ok (.invokevirtual 103, 3) := by decide +kernel
theorem dX5_aboutCylinder_64 : decode cX5_aboutCylinder 64 = .ok (.ireturn, 1) := by decide +kernel
theorem dX5_aboutCylinder_65 : decode cX5_aboutCylinder 65 = .ok (.aload_n 0, 1) := by decide +kernel
theorem dX5_aboutCylinder_66 : decode cX5_aboutCylinder 66 = .ok (.getfield 29, 3) := by decide +kernel
theorem dX5_aboutCylinder_69 : decode cX5_aboutCylinder 69 = .ok (.iload_n 1, 1) := by decide +kernel
theorem dX5_aboutCylinder_70 : decode cX5_aboutCylinder 70 = .ok (.invokevirtual 99, 3) := by decide +kernel
theorem dX5_aboutCylinder_73 : decode cX5_aboutCylinder 73 = .ok (.ireturn, 1) := by decide +kernel
theorem dX5_aboutControl_0 : decode cX5_aboutControl 0 = .ok (.iload_n 1, 1) := by decide +kernel
theorem dX5_aboutControl_1 : decode cX5_aboutControl 1 = .ok (.tableswitch 59 0 3 #[31, 44, 49, 54], 31) := by decide +kernel
theorem dX5_aboutControl_32 : decode cX5_aboutControl 32 = .ok (.aload_n 0, 1) := by decide +kernel
theorem dX5_aboutControl_33 : decode cX5_aboutControl 33 = .ok (.getfield 83, 3) := by decide +kernel
theorem dX5_aboutControl_36 : decode cX5_aboutControl 36 = .ok (.ifCond .eq 7, 3) := by decide +kernel
theorem dX5_aboutControl_39 : decode cX5_aboutControl 39 = .ok (.iconst 1, 1) := by decide +kernel
theorem dX5_aboutControl_40 : decode cX5_aboutControl 40 = .ok (.goto 4, 3) := by decide +kernel
theorem dX5_aboutControl_43 : decode cX5_aboutControl 43 = .ok (.iconst 0, 1) := by decide +kernel
theorem dX5_aboutControl_44 : decode cX5_aboutControl 44 = .ok (.ireturn, 1) := by decide +kernel
theorem dX5_aboutControl_45 : decode cX5_aboutControl 45 = .ok (.aload_n 0, 1) := by decide +kernel
theorem dX5_aboutControl_46 : decode cX5_aboutControl 46 = .ok (.getfield 77, 3) := by decide +kernel
theorem dX5_aboutControl_49 : decode cX5_aboutControl 49 = .ok (.ireturn, 1) := by decide +kernel
theorem dX5_aboutControl_50 : decode cX5_aboutControl 50 = .ok (.aload_n 0, 1) := by decide +kernel
theorem dX5_aboutControl_51 : decode cX5_aboutControl 51 = .ok (.getfield 80, 3) := by decide +kernel
theorem dX5_aboutControl_54 : decode cX5_aboutControl 54 = .ok (.ireturn, 1) := by decide +kernel
theorem dX5_aboutControl_55 : decode cX5_aboutControl 55 = .ok (.aload_n 0, 1) := by decide +kernel
theorem dX5_aboutControl_56 : decode cX5_aboutControl 56 = .ok (.getfield 71, 3) := by decide +kernel
theorem dX5_aboutControl_59 : decode cX5_aboutControl 59 = .ok (.ireturn, 1) := by decide +kernel
theorem dX5_aboutControl_60 : decode cX5_aboutControl 60 = .ok (.aload_n 0, 1) := by decide +kernel
theorem dX5_aboutControl_61 : decode cX5_aboutControl 61 = .ok (.getfield 74, 3) := by decide +kernel
theorem dX5_aboutControl_64 : decode cX5_aboutControl 64 = .ok (.ireturn, 1) := by decide +kernel
theorem dX5_thresholdOf_0 : decode cX5_thresholdOf 0 = .ok (.aload_n 0, 1) := by decide +kernel
theorem dX5_thresholdOf_1 : decode cX5_thresholdOf 1 = .ok (.getfield 23, 3) := by decide +kernel
theorem dX5_thresholdOf_4 : decode cX5_thresholdOf 4 = .ok (.iload_n 1, 1) := by decide +kernel
theorem dX5_thresholdOf_5 : decode cX5_thresholdOf 5 = .ok (.invokevirtual 99, 3) := by decide +kernel
theorem dX5_thresholdOf_8 : decode cX5_thresholdOf 8 = .ok (.aload_n 0, 1) := by decide +kernel
theorem dX5_thresholdOf_9 : decode cX5_thresholdOf 9 = .ok (.getfield 14, 3) := by decide +kernel
theorem dX5_thresholdOf_12 : decode cX5_thresholdOf 12 = .ok (.iconst 0, 1) := by decide +kernel
theorem dX5_thresholdOf_13 : decode cX5_thresholdOf 13 = .ok (.invokevirtual 99, 3) := by decide +kernel
theorem dX5_thresholdOf_16 : decode cX5_thresholdOf 16 = .ok (.imul, 1) := by decide +kernel
theorem dX5_thresholdOf_17 : decode cX5_thresholdOf 17 = .ok (.sipush 4096, 3) := by decide +kernel
theorem dX5_thresholdOf_20 : decode cX5_thresholdOf 20 = .ok (.idiv, 1) := by decide +kernel
theorem dX5_thresholdOf_21 : decode cX5_thresholdOf 21 = .ok (.bipush 50, 2) := by decide +kernel
theorem dX5_thresholdOf_23 : decode cX5_thresholdOf 23 = .ok (.iadd, 1) := by decide +kernel
theorem dX5_thresholdOf_24 : decode cX5_thresholdOf 24 = .ok (.ireturn, 1) := by decide +kernel
theorem dX5_retardOf_0 : decode cX5_retardOf 0 = .ok (.aload_n 0, 1) := by decide +kernel
theorem dX5_retardOf_1 : decode cX5_retardOf 1 = .ok (.getfield 83, 3) := by decide +kernel
theorem dX5_retardOf_4 : decode cX5_retardOf 4 = .ok (.ifCond .eq 15, 3) := by decide +kernel
theorem dX5_retardOf_7 : decode cX5_retardOf 7 = .ok (.aload_n 0, 1) := by decide +kernel
theorem dX5_retardOf_8 : decode cX5_retardOf 8 = .ok (.getfield 14, 3) := by decide +kernel
theorem dX5_retardOf_11 : decode cX5_retardOf 11 = .ok (.bipush 7, 2) := by decide +kernel
theorem dX5_retardOf_13 : decode cX5_retardOf 13 = .ok (.invokevirtual 99, 3) := by decide +kernel
theorem dX5_retardOf_16 : decode cX5_retardOf 16 = .ok (.goto 11, 3) := by decide +kernel
theorem dX5_retardOf_19 : decode cX5_retardOf 19 = .ok (.aload_n 0, 1) := by decide +kernel
theorem dX5_retardOf_20 : decode cX5_retardOf 20 = .ok (.getfield 20, 3) := by decide +kernel
theorem dX5_retardOf_23 : decode cX5_retardOf 23 = .ok (.iload_n 1, 1) := by decide +kernel
theorem dX5_retardOf_24 : decode cX5_retardOf 24 = .ok (.invokevirtual 99, 3) := by decide +kernel
theorem dX5_retardOf_27 : decode cX5_retardOf 27 = .ok (.istore_n 3, 1) := by decide +kernel
theorem dX5_retardOf_28 : decode cX5_retardOf 28 = .ok (.iload_n 3, 1) := by decide +kernel
theorem dX5_retardOf_29 : decode cX5_retardOf 29 = .ok (.aload_n 0, 1) := by decide +kernel
theorem dX5_retardOf_30 : decode cX5_retardOf 30 = .ok (.getfield 32, 3) := by decide +kernel
theorem dX5_retardOf_33 : decode cX5_retardOf 33 = .ok (.iload_n 2, 1) := by decide +kernel
theorem dX5_retardOf_34 : decode cX5_retardOf 34 = .ok (.invokevirtual 99, 3) := by decide +kernel
theorem dX5_retardOf_37 : decode cX5_retardOf 37 = .ok (.iadd, 1) := by decide +kernel
theorem dX5_retardOf_38 : decode cX5_retardOf 38 = .ok (.aload_n 0, 1) := by decide +kernel
theorem dX5_retardOf_39 : decode cX5_retardOf 39 = .ok (.getfield 14, 3) := by decide +kernel
theorem dX5_retardOf_42 : decode cX5_retardOf 42 = .ok (.iconst 3, 1) := by decide +kernel
theorem dX5_retardOf_43 : decode cX5_retardOf 43 = .ok (.invokevirtual 99, 3) := by decide +kernel
theorem dX5_retardOf_46 : decode cX5_retardOf 46 = .ok (.invokestatic 106, 3) := by decide +kernel
theorem dX5_retardOf_49 : decode cX5_retardOf 49 = .ok (.ireturn, 1) := by decide +kernel
theorem dX5_advanceOf_0 : decode cX5_advanceOf 0 = .ok (.iload_n 2, 1) := by decide +kernel
theorem dX5_advanceOf_1 : decode cX5_advanceOf 1 = .ok (.iload_n 3, 1) := by decide +kernel
theorem dX5_advanceOf_2 : decode cX5_advanceOf 2 = .ok (.invokestatic 112, 3) := by decide +kernel
theorem dX5_advanceOf_5 : decode cX5_advanceOf 5 = .ok (.aload_n 0, 1) := by decide +kernel
theorem dX5_advanceOf_6 : decode cX5_advanceOf 6 = .ok (.iload_n 1, 1) := by decide +kernel
theorem dX5_advanceOf_7 : decode cX5_advanceOf 7 = .ok (.iload_n 2, 1) := by decide +kernel
theorem dX5_advanceOf_8 : decode cX5_advanceOf 8 = .ok (.iload_n 3, 1) := by decide +kernel
theorem dX5_advanceOf_9 : decode cX5_advanceOf 9 = .ok (.invokestatic 117, 3) := by decide +kernel
theorem dX5_advanceOf_12 : decode cX5_advanceOf 12 = .ok (.invokevirtual 120, 3) := by decide +kernel
theorem dX5_advanceOf_15 : decode cX5_advanceOf 15 = .ok (.isub, 1) := by decide +kernel
theorem dX5_advanceOf_16 : decode cX5_advanceOf 16 = .ok (.ireturn, 1) := by decide +kernel
theorem dX5_greatestFast_0 : decode cX5_greatestFast 0 = .ok (.aload_n 0, 1) := by decide +kernel
theorem dX5_greatestFast_1 : decode cX5_greatestFast 1 = .ok (.getfield 20, 3) := by decide +kernel
theorem dX5_greatestFast_4 : decode cX5_greatestFast 4 = .ok (.iconst 0, 1) := by decide +kernel
theorem dX5_greatestFast_5 : decode cX5_greatestFast 5 = .ok (.invokevirtual 99, 3) := by decide +kernel
theorem dX5_greatestFast_8 : decode cX5_greatestFast 8 = .ok (.istore_n 1, 1) := by decide +kernel
theorem dX5_greatestFast_9 : decode cX5_greatestFast 9 = .ok (.iconst 1, 1) := by decide +kernel
theorem dX5_greatestFast_10 : decode cX5_greatestFast 10 = .ok (.istore_n 2, 1) := by decide +kernel
theorem dX5_greatestFast_11 : decode cX5_greatestFast 11 = .ok (.iload_n 2, 1) := by decide +kernel
theorem dX5_greatestFast_12 : decode cX5_greatestFast 12 = .ok (.aload_n 0, 1) := by decide +kernel
theorem dX5_greatestFast_13 : decode cX5_greatestFast 13 = .ok (.getfield 61, 3) := by decide +kernel
theorem dX5_greatestFast_16 : decode cX5_greatestFast 16 = .ok (.if_icmp .ge 22, 3) := by decide +kernel
theorem dX5_greatestFast_19 : decode cX5_greatestFast 19 = .ok (.iload_n 1, 1) := by decide +kernel
theorem dX5_greatestFast_20 : decode cX5_greatestFast 20 = .ok (.aload_n 0, 1) := by decide +kernel
theorem dX5_greatestFast_21 : decode cX5_greatestFast 21 = .ok (.getfield 20, 3) := by decide +kernel
theorem dX5_greatestFast_24 : decode cX5_greatestFast 24 = .ok (.iload_n 2, 1) := by decide +kernel
theorem dX5_greatestFast_25 : decode cX5_greatestFast 25 = .ok (.invokevirtual 99, 3) := by decide +kernel
theorem dX5_greatestFast_28 : decode cX5_greatestFast 28 = .ok (.invokestatic 123, 3) := by decide +kernel
theorem dX5_greatestFast_31 : decode cX5_greatestFast 31 = .ok (.istore_n 1, 1) := by decide +kernel
theorem dX5_greatestFast_32 : decode cX5_greatestFast 32 = .ok (.iinc 2 1, 3) := by decide +kernel
theorem dX5_greatestFast_35 : decode cX5_greatestFast 35 = .ok (.goto (-24), 3) := by decide +kernel
theorem dX5_greatestFast_38 : decode cX5_greatestFast 38 = .ok (.iload_n 1, 1) := by decide +kernel
theorem dX5_greatestFast_39 : decode cX5_greatestFast 39 = .ok (.ireturn, 1) := by decide +kernel
theorem dX5_smallestFast_0 : decode cX5_smallestFast 0 = .ok (.aload_n 0, 1) := by decide +kernel
theorem dX5_smallestFast_1 : decode cX5_smallestFast 1 = .ok (.getfield 20, 3) := by decide +kernel
theorem dX5_smallestFast_4 : decode cX5_smallestFast 4 = .ok (.iconst 0, 1) := by decide +kernel
theorem dX5_smallestFast_5 : decode cX5_smallestFast 5 = .ok (.invokevirtual 99, 3) := by decide +kernel
theorem dX5_smallestFast_8 : decode cX5_smallestFast 8 = .ok (.istore_n 1, 1) := by decide +kernel
theorem dX5_smallestFast_9 : decode cX5_smallestFast 9 = .ok (.iconst 1, 1) := by decide +kernel
theorem dX5_smallestFast_10 : decode cX5_smallestFast 10 = .ok (.istore_n 2, 1) := by decide +kernel
theorem dX5_smallestFast_11 : decode cX5_smallestFast 11 = .ok (.iload_n 2, 1) := by decide +kernel
theorem dX5_smallestFast_12 : decode cX5_smallestFast 12 = .ok (.aload_n 0, 1) := by decide +kernel
theorem dX5_smallestFast_13 : decode cX5_smallestFast 13 = .ok (.getfield 61, 3) := by decide +kernel
theorem dX5_smallestFast_16 : decode cX5_smallestFast 16 = .ok (.if_icmp .ge 22, 3) := by decide +kernel
theorem dX5_smallestFast_19 : decode cX5_smallestFast 19 = .ok (.iload_n 1, 1) := by decide +kernel
theorem dX5_smallestFast_20 : decode cX5_smallestFast 20 = .ok (.aload_n 0, 1) := by decide +kernel
theorem dX5_smallestFast_21 : decode cX5_smallestFast 21 = .ok (.getfield 20, 3) := by decide +kernel
theorem dX5_smallestFast_24 : decode cX5_smallestFast 24 = .ok (.iload_n 2, 1) := by decide +kernel
theorem dX5_smallestFast_25 : decode cX5_smallestFast 25 = .ok (.invokevirtual 99, 3) := by decide +kernel
theorem dX5_smallestFast_28 : decode cX5_smallestFast 28 = .ok (.invokestatic 106, 3) := by decide +kernel
theorem dX5_smallestFast_31 : decode cX5_smallestFast 31 = .ok (.istore_n 1, 1) := by decide +kernel
theorem dX5_smallestFast_32 : decode cX5_smallestFast 32 = .ok (.iinc 2 1, 3) := by decide +kernel
theorem dX5_smallestFast_35 : decode cX5_smallestFast 35 = .ok (.goto (-24), 3) := by decide +kernel
theorem dX5_smallestFast_38 : decode cX5_smallestFast 38 = .ok (.iload_n 1, 1) := by decide +kernel
theorem dX5_smallestFast_39 : decode cX5_smallestFast 39 = .ok (.ireturn, 1) := by decide +kernel
theorem dX5_allKnocks_0 : decode cX5_allKnocks 0 = .ok (.iconst 0, 1) := by decide +kernel
theorem dX5_allKnocks_1 : decode cX5_allKnocks 1 = .ok (.istore_n 1, 1) := by decide +kernel
theorem dX5_allKnocks_2 : decode cX5_allKnocks 2 = .ok (.iconst 0, 1) := by decide +kernel
theorem dX5_allKnocks_3 : decode cX5_allKnocks 3 = .ok (.istore_n 2, 1) := by decide +kernel
theorem dX5_allKnocks_4 : decode cX5_allKnocks 4 = .ok (.iload_n 2, 1) := by decide +kernel
theorem dX5_allKnocks_5 : decode cX5_allKnocks 5 = .ok (.aload_n 0, 1) := by decide +kernel
theorem dX5_allKnocks_6 : decode cX5_allKnocks 6 = .ok (.getfield 61, 3) := by decide +kernel
theorem dX5_allKnocks_9 : decode cX5_allKnocks 9 = .ok (.if_icmp .ge 20, 3) := by decide +kernel
theorem dX5_allKnocks_12 : decode cX5_allKnocks 12 = .ok (.iload_n 1, 1) := by decide +kernel
theorem dX5_allKnocks_13 : decode cX5_allKnocks 13 = .ok (.aload_n 0, 1) := by decide +kernel
theorem dX5_allKnocks_14 : decode cX5_allKnocks 14 = .ok (.getfield 29, 3) := by decide +kernel
theorem dX5_allKnocks_17 : decode cX5_allKnocks 17 = .ok (.iload_n 2, 1) := by decide +kernel
theorem dX5_allKnocks_18 : decode cX5_allKnocks 18 = .ok (.invokevirtual 99, 3) := by decide +kernel
theorem dX5_allKnocks_21 : decode cX5_allKnocks 21 = .ok (.iadd, 1) := by decide +kernel
theorem dX5_allKnocks_22 : decode cX5_allKnocks 22 = .ok (.istore_n 1, 1) := by decide +kernel
theorem dX5_allKnocks_23 : decode cX5_allKnocks 23 = .ok (.iinc 2 1, 3) := by decide +kernel
theorem dX5_allKnocks_26 : decode cX5_allKnocks 26 = .ok (.goto (-22), 3) := by decide +kernel
theorem dX5_allKnocks_29 : decode cX5_allKnocks 29 = .ok (.iload_n 1, 1) := by decide +kernel
theorem dX5_allKnocks_30 : decode cX5_allKnocks 30 = .ok (.ireturn, 1) := by decide +kernel
theorem dX5_treatModelled_0 : decode cX5_treatModelled 0 = .ok (.aload_n 0, 1) := by decide +kernel
theorem dX5_treatModelled_1 : decode cX5_treatModelled 1 = .ok (.ldc2_w 126, 3) := by decide +kernel
theorem dX5_treatModelled_4 : decode cX5_treatModelled 4 = .ok (.aload_n 0, 1) := by decide +kernel
theorem dX5_treatModelled_5 : decode cX5_treatModelled 5 = .ok (.getfield 50, 3) := by decide +kernel
theorem dX5_treatModelled_8 : decode cX5_treatModelled 8 = .ok (.i2l, 1) := by decide +kernel
theorem dX5_treatModelled_9 : decode cX5_treatModelled 9 = .ok (.lmul, 1) := by decide +kernel
theorem dX5_treatModelled_10 : decode cX5_treatModelled 10 = .ok (.ldc2_w 128, 3) := by decide +kernel
theorem dX5_treatModelled_13 : decode cX5_treatModelled 13 = .ok (.ladd, 1) := by decide +kernel
theorem dX5_treatModelled_14 : decode cX5_treatModelled 14 = .ok (.ldc2_w 130, 3) := by decide +kernel
theorem dX5_treatModelled_17 : decode cX5_treatModelled 17 = .ok (.lrem, 1) := by decide +kernel
theorem dX5_treatModelled_18 : decode cX5_treatModelled 18 = .ok (.l2i, 1) := by decide +kernel
theorem dX5_treatModelled_19 : decode cX5_treatModelled 19 = .ok (.putfield 50, 3) := by decide +kernel
theorem dX5_treatModelled_22 : decode cX5_treatModelled 22 = .ok (.aload_n 0, 1) := by decide +kernel
theorem dX5_treatModelled_23 : decode cX5_treatModelled 23 = .ok (.getfield 54, 3) := by decide +kernel
theorem dX5_treatModelled_26 : decode cX5_treatModelled 26 = .ok (.ifCond .eq 11, 3) := by decide +kernel
theorem dX5_treatModelled_29 : decode cX5_treatModelled 29 = .ok (.aload_n 0, 1) := by decide +kernel
theorem dX5_treatModelled_30 : decode cX5_treatModelled 30 = .ok (.iload_n 1, 1) := by decide +kernel
theorem dX5_treatModelled_31 : decode cX5_treatModelled 31 = .ok (.iload_n 2, 1) := by decide +kernel
theorem dX5_treatModelled_32 : decode cX5_treatModelled 32 = .ok (.iconst 0, 1) := by decide +kernel
theorem dX5_treatModelled_33 : decode cX5_treatModelled 33 = .ok (.invokevirtual 132, 3) := by decide +kernel
theorem dX5_treatModelled_36 : decode cX5_treatModelled 36 = .ok (.ireturn, 1) := by decide +kernel
theorem dX5_treatModelled_37 : decode cX5_treatModelled 37 = .ok (.aload_n 0, 1) := by decide +kernel
theorem dX5_treatModelled_38 : decode cX5_treatModelled 38 = .ok (.getfield 50, 3) := by decide +kernel
theorem dX5_treatModelled_41 : decode cX5_treatModelled 41 = .ok (.ldc 136, 2) := by decide +kernel
theorem dX5_treatModelled_43 : decode cX5_treatModelled 43 = .ok (.idiv, 1) := by decide +kernel
theorem dX5_treatModelled_44 : decode cX5_treatModelled 44 = .ok (.bipush 40, 2) := by decide +kernel
theorem dX5_treatModelled_46 : decode cX5_treatModelled 46 = .ok (.irem, 1) := by decide +kernel
theorem dX5_treatModelled_47 : decode cX5_treatModelled 47 = .ok (.istore 4, 2) := by decide +kernel
theorem dX5_treatModelled_49 : decode cX5_treatModelled 49 = .ok (.aload_n 0, 1) := by decide +kernel
theorem dX5_treatModelled_50 : decode cX5_treatModelled 50 = .ok (.aload_n 0, 1) := by decide +kernel
theorem dX5_treatModelled_51 : decode cX5_treatModelled 51 = .ok (.getfield 89, 3) := by decide +kernel
theorem dX5_treatModelled_54 : decode cX5_treatModelled 54 = .ok (.iload_n 1, 1) := by decide +kernel
theorem dX5_treatModelled_55 : decode cX5_treatModelled 55 = .ok (.iload_n 2, 1) := by decide +kernel
theorem dX5_treatModelled_56 : decode cX5_treatModelled 56 = .ok (.invokevirtual 137, 3) := by decide +kernel
theorem dX5_treatModelled_59 : decode cX5_treatModelled 59 = .ok (.iload_n 1, 1) := by decide +kernel
theorem dX5_treatModelled_60 : decode cX5_treatModelled 60 = .ok (.iload_n 2, 1) := by decide +kernel
theorem dX5_treatModelled_61 : decode cX5_treatModelled 61 = .ok (.iload_n 3, 1) := by decide +kernel
theorem dX5_treatModelled_62 : decode cX5_treatModelled 62 = .ok (.invokestatic 140, 3) := by decide +kernel
theorem dX5_treatModelled_65 : decode cX5_treatModelled 65 = .ok (.isub, 1) := by decide +kernel
theorem dX5_treatModelled_66 : decode cX5_treatModelled 66 = .ok (.istore 5, 2) := by decide +kernel
theorem dX5_treatModelled_68 : decode cX5_treatModelled 68 = .ok (.iload_n 1, 1) := by decide +kernel
theorem dX5_treatModelled_69 : decode cX5_treatModelled 69 = .ok (.bipush 20, 2) := by decide +kernel
theorem dX5_treatModelled_71 : decode cX5_treatModelled 71 = .ok (.idiv, 1) := by decide +kernel
theorem dX5_treatModelled_72 : decode cX5_treatModelled 72 = .ok (.iload_n 2, 1) := by decide +kernel
theorem dX5_treatModelled_73 : decode cX5_treatModelled 73 = .ok (.iadd, 1) := by decide +kernel
theorem dX5_treatModelled_74 : decode cX5_treatModelled 74 = .ok (.iload 4, 2) := by decide +kernel
theorem dX5_treatModelled_76 : decode cX5_treatModelled 76 = .ok (.iadd, 1) := by decide +kernel
theorem dX5_treatModelled_77 : decode cX5_treatModelled 77 = .ok (.bipush 12, 2) := by decide +kernel
theorem dX5_treatModelled_79 : decode cX5_treatModelled 79 = .ok (.iload 5, 2) := by decide +kernel
theorem dX5_treatModelled_81 : decode cX5_treatModelled 81 = .ok (.iconst 0, 1) := by decide +kernel
theorem dX5_treatModelled_82 : decode cX5_treatModelled 82 = .ok (.invokestatic 123, 3) := by decide +kernel
theorem dX5_treatModelled_85 : decode cX5_treatModelled 85 = .ok (.imul, 1) := by decide +kernel
theorem dX5_treatModelled_86 : decode cX5_treatModelled 86 = .ok (.iadd, 1) := by decide +kernel
theorem dX5_treatModelled_87 : decode cX5_treatModelled 87 = .ok (.istore 6, 2) := by decide +kernel
theorem dX5_treatModelled_89 : decode cX5_treatModelled 89 = .ok (.aload_n 0, 1) := by decide +kernel
theorem dX5_treatModelled_90 : decode cX5_treatModelled 90 = .ok (.iload_n 1, 1) := by decide +kernel
theorem dX5_treatModelled_91 : decode cX5_treatModelled 91 = .ok (.iload_n 2, 1) := by decide +kernel
theorem dX5_treatModelled_92 : decode cX5_treatModelled 92 = .ok (.iload 6, 2) := by decide +kernel
theorem dX5_treatModelled_94 : decode cX5_treatModelled 94 = .ok (.sipush 20000, 3) := by decide +kernel
theorem dX5_treatModelled_97 : decode cX5_treatModelled 97 = .ok (.invokestatic 106, 3) := by decide +kernel
theorem dX5_treatModelled_100 : decode cX5_treatModelled 100 = .ok (.invokevirtual 132, 3) := by decide +kernel
theorem dX5_treatModelled_103 : decode cX5_treatModelled 103 = .ok (.ireturn, 1) := by decide +kernel
theorem dX5_treat_0 : decode cX5_treat 0 = .ok (.iload_n 1, 1) := by decide +kernel
theorem dX5_treat_1 : decode cX5_treat 1 = .ok (.iload_n 2, 1) := by decide +kernel
theorem dX5_treat_2 : decode cX5_treat 2 = .ok (.invokestatic 117, 3) := by decide +kernel
theorem dX5_treat_5 : decode cX5_treat 5 = .ok (.istore 4, 2) := by decide +kernel
theorem dX5_treat_7 : decode cX5_treat 7 = .ok (.aload_n 0, 1) := by decide +kernel
theorem dX5_treat_8 : decode cX5_treat 8 = .ok (.iload_n 3, 1) := by decide +kernel
theorem dX5_treat_9 : decode cX5_treat 9 = .ok (.invokevirtual 143, 3) := by decide +kernel
theorem dX5_treat_12 : decode cX5_treat 12 = .ok (.aload_n 0, 1) := by decide +kernel
theorem dX5_treat_13 : decode cX5_treat 13 = .ok (.iload 4, 2) := by decide +kernel
theorem dX5_treat_15 : decode cX5_treat 15 = .ok (.aload_n 0, 1) := by decide +kernel
theorem dX5_treat_16 : decode cX5_treat 16 = .ok (.getfield 74, 3) := by decide +kernel
theorem dX5_treat_19 : decode cX5_treat 19 = .ok (.if_icmp .ne 12, 3) := by decide +kernel
theorem dX5_treat_22 : decode cX5_treat 22 = .ok (.aload_n 0, 1) := by decide +kernel
theorem dX5_treat_23 : decode cX5_treat 23 = .ok (.getfield 71, 3) := by decide +kernel
theorem dX5_treat_26 : decode cX5_treat 26 = .ok (.iconst 1, 1) := by decide +kernel
theorem dX5_treat_27 : decode cX5_treat 27 = .ok (.iadd, 1) := by decide +kernel
theorem dX5_treat_28 : decode cX5_treat 28 = .ok (.goto 4, 3) := by decide +kernel
theorem dX5_treat_31 : decode cX5_treat 31 = .ok (.iconst 0, 1) := by decide +kernel
theorem dX5_treat_32 : decode cX5_treat 32 = .ok (.putfield 71, 3) := by decide +kernel
theorem dX5_treat_35 : decode cX5_treat 35 = .ok (.aload_n 0, 1) := by decide +kernel
theorem dX5_treat_36 : decode cX5_treat 36 = .ok (.iload 4, 2) := by decide +kernel
theorem dX5_treat_38 : decode cX5_treat 38 = .ok (.putfield 74, 3) := by decide +kernel
theorem dX5_treat_41 : decode cX5_treat 41 = .ok (.iconst 2, 1) := by decide +kernel
theorem dX5_treat_42 : decode cX5_treat 42 = .ok (.istore 5, 2) := by decide +kernel
theorem dX5_treat_44 : decode cX5_treat 44 = .ok (.aload_n 0, 1) := by decide +kernel
theorem dX5_treat_45 : decode cX5_treat 45 = .ok (.getfield 83, 3) := by decide +kernel
theorem dX5_treat_48 : decode cX5_treat 48 = .ok (.ifCond .ne 26, 3) := by decide +kernel
theorem dX5_treat_51 : decode cX5_treat 51 = .ok (.aload_n 0, 1) := by decide +kernel
theorem dX5_treat_52 : decode cX5_treat 52 = .ok (.aload_n 0, 1) := by decide +kernel
theorem dX5_treat_53 : decode cX5_treat 53 = .ok (.getfield 89, 3) := by decide +kernel
theorem dX5_treat_56 : decode cX5_treat 56 = .ok (.iload 4, 2) := by decide +kernel
theorem dX5_treat_58 : decode cX5_treat 58 = .ok (.iload_n 3, 1) := by decide +kernel
theorem dX5_treat_59 : decode cX5_treat 59 = .ok (.invokevirtual 146, 3) := by decide +kernel
theorem dX5_treat_62 : decode cX5_treat 62 = .ok (.istore 5, 2) := by decide +kernel
theorem dX5_treat_64 : decode cX5_treat 64 = .ok (.aload_n 0, 1) := by decide +kernel
theorem dX5_treat_65 : decode cX5_treat 65 = .ok (.invokevirtual 149, 3) := by decide +kernel
theorem dX5_treat_68 : decode cX5_treat 68 = .ok (.aload_n 0, 1) := by decide +kernel
theorem dX5_treat_69 : decode cX5_treat 69 = .ok (.iload 4, 2) := by decide +kernel
theorem dX5_treat_71 : decode cX5_treat 71 = .ok (.invokevirtual 152, 3) := by decide +kernel
theorem dX5_treat_74 : decode cX5_treat 74 = .ok (.aload_n 0, 1) := by decide +kernel
theorem dX5_treat_75 : decode cX5_treat 75 = .ok (.dup, 1) := by decide +kernel
theorem dX5_treat_76 : decode cX5_treat 76 = .ok (.getfield 86, 3) := by decide +kernel
theorem dX5_treat_79 : decode cX5_treat 79 = .ok (.iconst 1, 1) := by decide +kernel
theorem dX5_treat_80 : decode cX5_treat 80 = .ok (.iadd, 1) := by decide +kernel
theorem dX5_treat_81 : decode cX5_treat 81 = .ok (.putfield 86, 3) := by decide +kernel
theorem dX5_treat_84 : decode cX5_treat 84 = .ok (.aload_n 0, 1) := by decide +kernel
theorem dX5_treat_85 : decode cX5_treat 85 = .ok (.aload_n 0, 1) := by decide +kernel
theorem dX5_treat_86 : decode cX5_treat 86 = .ok (.getfield 89, 3) := by decide +kernel
theorem dX5_treat_89 : decode cX5_treat 89 = .ok (.iconst 1, 1) := by decide +kernel
theorem dX5_treat_90 : decode cX5_treat 90 = .ok (.iadd, 1) := by decide +kernel
theorem dX5_treat_91 : decode cX5_treat 91 = .ok (.aload_n 0, 1) := by decide +kernel
theorem dX5_treat_92 : decode cX5_treat 92 = .ok (.getfield 61, 3) := by decide +kernel
theorem dX5_treat_95 : decode cX5_treat 95 = .ok (.if_icmp .ge 12, 3) := by decide +kernel
theorem dX5_treat_98 : decode cX5_treat 98 = .ok (.aload_n 0, 1) := by decide +kernel
theorem dX5_treat_99 : decode cX5_treat 99 = .ok (.getfield 89, 3) := by decide +kernel
theorem dX5_treat_102 : decode cX5_treat 102 = .ok (.iconst 1, 1) := by decide +kernel
theorem dX5_treat_103 : decode cX5_treat 103 = .ok (.iadd, 1) := by decide +kernel
theorem dX5_treat_104 : decode cX5_treat 104 = .ok (.goto 4, 3) := by decide +kernel
theorem dX5_treat_107 : decode cX5_treat 107 = .ok (.iconst 0, 1) := by decide +kernel
theorem dX5_treat_108 : decode cX5_treat 108 = .ok (.putfield 89, 3) := by decide +kernel
theorem dX5_treat_111 : decode cX5_treat 111 = .ok (.iload 5, 2) := by decide +kernel
theorem dX5_treat_113 : decode cX5_treat 113 = .ok (.ireturn, 1) := by decide +kernel
theorem dX5_watchSensor_0 : decode cX5_watchSensor 0 = .ok (.iload_n 1, 1) := by decide +kernel
theorem dX5_watchSensor_1 : decode cX5_watchSensor 1 = .ok (.aload_n 0, 1) := by decide +kernel
theorem dX5_watchSensor_2 : decode cX5_watchSensor 2 = .ok (.getfield 14, 3) := by decide +kernel
theorem dX5_watchSensor_5 : decode cX5_watchSensor 5 = .ok (.bipush 6, 2) := by decide +kernel
theorem dX5_watchSensor_7 : decode cX5_watchSensor 7 = .ok (.invokevirtual 99, 3) := by decide +kernel
theorem dX5_watchSensor_10 : decode cX5_watchSensor 10 = .ok (.if_icmp .ge 7, 3) := by decide +kernel
theorem dX5_watchSensor_13 : decode cX5_watchSensor 13 = .ok (.iconst 1, 1) := by decide +kernel
theorem dX5_watchSensor_14 : decode cX5_watchSensor 14 = .ok (.goto 4, 3) := by decide +kernel
theorem dX5_watchSensor_17 : decode cX5_watchSensor 17 = .ok (.iconst 0, 1) := by decide +kernel
theorem dX5_watchSensor_18 : decode cX5_watchSensor 18 = .ok (.istore_n 2, 1) := by decide +kernel
theorem dX5_watchSensor_19 : decode cX5_watchSensor 19 = .ok (.aload_n 0, 1) := by decide +kernel
theorem dX5_watchSensor_20 : decode cX5_watchSensor 20 = .ok (.iload_n 2, 1) := by decide +kernel
theorem dX5_watchSensor_21 : decode cX5_watchSensor 21 = .ok (.ifCond .eq 12, 3) := by decide +kernel
theorem dX5_watchSensor_24 : decode cX5_watchSensor 24 = .ok (.aload_n 0, 1) := by decide +kernel
theorem dX5_watchSensor_25 : decode cX5_watchSensor 25 = .ok (.getfield 77, 3) := by decide +kernel
theorem dX5_watchSensor_28 : decode cX5_watchSensor 28 = .ok (.iconst 1, 1) := by decide +kernel
theorem dX5_watchSensor_29 : decode cX5_watchSensor 29 = .ok (.iadd, 1) := by decide +kernel
theorem dX5_watchSensor_30 : decode cX5_watchSensor 30 = .ok (.goto 4, 3) := by decide +kernel
theorem dX5_watchSensor_33 : decode cX5_watchSensor 33 = .ok (.iconst 0, 1) := by decide +kernel
theorem dX5_watchSensor_34 : decode cX5_watchSensor 34 = .ok (.putfield 77, 3) := by decide +kernel
theorem dX5_watchSensor_37 : decode cX5_watchSensor 37 = .ok (.aload_n 0, 1) := by decide +kernel
theorem dX5_watchSensor_38 : decode cX5_watchSensor 38 = .ok (.iload_n 2, 1) := by decide +kernel
theorem dX5_watchSensor_39 : decode cX5_watchSensor 39 = .ok (.ifCond .eq 7, 3) := by decide +kernel
theorem dX5_watchSensor_42 : decode cX5_watchSensor 42 = .ok (.iconst 0, 1) := by decide +kernel
theorem dX5_watchSensor_43 : decode cX5_watchSensor 43 = .ok (.goto 9, 3) := by decide +kernel
theorem dX5_watchSensor_46 : decode cX5_watchSensor 46 = .ok (.aload_n 0, 1) := by decide +kernel
theorem dX5_watchSensor_47 : decode cX5_watchSensor 47 = .ok (.getfield 80, 3) := by decide +kernel
theorem dX5_watchSensor_50 : decode cX5_watchSensor 50 = .ok (.iconst 1, 1) := by decide +kernel
theorem dX5_watchSensor_51 : decode cX5_watchSensor 51 = .ok (.iadd, 1) := by decide +kernel
theorem dX5_watchSensor_52 : decode cX5_watchSensor 52 = .ok (.putfield 80, 3) := by decide +kernel
theorem dX5_watchSensor_55 : decode cX5_watchSensor 55 = .ok (.aload_n 0, 1) := by decide +kernel
theorem dX5_watchSensor_56 : decode cX5_watchSensor 56 = .ok (.getfield 83, 3) := by decide +kernel
theorem dX5_watchSensor_59 : decode cX5_watchSensor 59 = .ok (.ifCond .ne 33, 3) := by decide +kernel
theorem dX5_watchSensor_62 : decode cX5_watchSensor 62 = .ok (.aload_n 0, 1) := by decide +kernel
theorem dX5_watchSensor_63 : decode cX5_watchSensor 63 = .ok (.getfield 77, 3) := by decide +kernel
theorem dX5_watchSensor_66 : decode cX5_watchSensor 66 = .ok (.bipush 20, 2) := by decide +kernel
theorem dX5_watchSensor_68 : decode cX5_watchSensor 68 = .ok (.if_icmp .lt 24, 3) := by decide +kernel
theorem dX5_watchSensor_71 : decode cX5_watchSensor 71 = .ok (.aload_n 0, 1) := by decide +kernel
theorem dX5_watchSensor_72 : decode cX5_watchSensor 72 = .ok (.iconst 1, 1) := by decide +kernel
theorem dX5_watchSensor_73 : decode cX5_watchSensor 73 = .ok (.putfield 83, 3) := by decide +kernel
theorem dX5_watchSensor_76 : decode cX5_watchSensor 76 = .ok (.aload_n 0, 1) := by decide +kernel
theorem dX5_watchSensor_77 : decode cX5_watchSensor 77 = .ok (.getfield 38, 3) := by decide +kernel
theorem dX5_watchSensor_80 : decode cX5_watchSensor 80 = .ok (.iconst 1, 1) := by decide +kernel
theorem dX5_watchSensor_81 : decode cX5_watchSensor 81 = .ok (.iconst 0, 1) := by decide +kernel
theorem dX5_watchSensor_82 : decode cX5_watchSensor 82 = .ok (.aload_n 0, 1) := by decide +kernel
theorem dX5_watchSensor_83 : decode cX5_watchSensor 83 = .ok (.getfield 86, 3) := by decide +kernel
theorem dX5_watchSensor_86 : decode cX5_watchSensor 86 = .ok (.invokevirtual 155, 3) := by decide +kernel
theorem dX5_watchSensor_89 : decode cX5_watchSensor 89 = .ok (.goto 37, 3) := by decide +kernel
theorem dX5_watchSensor_92 : decode cX5_watchSensor 92 = .ok (.aload_n 0, 1) := by decide +kernel
theorem dX5_watchSensor_93 : decode cX5_watchSensor 93 = .ok (.getfield 83, 3) := by decide +kernel
theorem dX5_watchSensor_96 : decode cX5_watchSensor 96 = .ok (.ifCond .eq 30, 3) := by decide +kernel
theorem dX5_watchSensor_99 : decode cX5_watchSensor 99 = .ok (.aload_n 0, 1) := by decide +kernel
theorem dX5_watchSensor_100 : decode cX5_watchSensor 100 = .ok (.getfield 80, 3) := by decide +kernel
theorem dX5_watchSensor_103 : decode cX5_watchSensor 103 = .ok (.bipush 50, 2) := by decide +kernel
theorem dX5_watchSensor_105 : decode cX5_watchSensor 105 = .ok (.if_icmp .lt 21, 3) := by decide +kernel
theorem dX5_watchSensor_108 : decode cX5_watchSensor 108 = .ok (.aload_n 0, 1) := by decide +kernel
theorem dX5_watchSensor_109 : decode cX5_watchSensor 109 = .ok (.iconst 0, 1) := by decide +kernel
theorem dX5_watchSensor_110 : decode cX5_watchSensor 110 = .ok (.putfield 83, 3) := by decide +kernel
theorem dX5_watchSensor_113 : decode cX5_watchSensor 113 = .ok (.aload_n 0, 1) := by decide +kernel
theorem dX5_watchSensor_114 : decode cX5_watchSensor 114 = .ok (.getfield 38, 3) := by decide +kernel
theorem dX5_watchSensor_117 : decode cX5_watchSensor 117 = .ok (.iconst 2, 1) := by decide +kernel
theorem dX5_watchSensor_118 : decode cX5_watchSensor 118 = .ok (.iconst 0, 1) := by decide +kernel
theorem dX5_watchSensor_119 : decode cX5_watchSensor 119 = .ok (.aload_n 0, 1) := by decide +kernel
theorem dX5_watchSensor_120 : decode cX5_watchSensor 120 = .ok (.getfield 86, 3) := by decide +kernel
theorem dX5_watchSensor_123 : decode cX5_watchSensor 123 = .ok (.invokevirtual 155, 3) := by decide +kernel
theorem dX5_watchSensor_126 : decode cX5_watchSensor 126 = .ok (.return_, 1) := by decide +kernel
theorem dX5_listen_0 : decode cX5_listen 0 = .ok (.aload_n 0, 1) := by decide +kernel
theorem dX5_listen_1 : decode cX5_listen 1 = .ok (.iload_n 1, 1) := by decide +kernel
theorem dX5_listen_2 : decode cX5_listen 2 = .ok (.invokevirtual 103, 3) := by decide +kernel
theorem dX5_listen_5 : decode cX5_listen 5 = .ok (.istore 4, 2) := by decide +kernel
theorem dX5_listen_7 : decode cX5_listen 7 = .ok (.iload_n 3, 1) := by decide +kernel
theorem dX5_listen_8 : decode cX5_listen 8 = .ok (.iload 4, 2) := by decide +kernel
theorem dX5_listen_10 : decode cX5_listen 10 = .ok (.if_icmp .le 45, 3) := by decide +kernel
theorem dX5_listen_13 : decode cX5_listen 13 = .ok (.aload_n 0, 1) := by decide +kernel
theorem dX5_listen_14 : decode cX5_listen 14 = .ok (.iload_n 1, 1) := by decide +kernel
theorem dX5_listen_15 : decode cX5_listen 15 = .ok (.iload_n 2, 1) := by decide +kernel
theorem dX5_listen_16 : decode cX5_listen 16 = .ok (.iload_n 3, 1) := by decide +kernel
theorem dX5_listen_17 : decode cX5_listen 17 = .ok (.iload 4, 2) := by decide +kernel
theorem dX5_listen_19 : decode cX5_listen 19 = .ok (.invokevirtual 159, 3) := by decide +kernel
theorem dX5_listen_22 : decode cX5_listen 22 = .ok (.aload_n 0, 1) := by decide +kernel
theorem dX5_listen_23 : decode cX5_listen 23 = .ok (.getfield 26, 3) := by decide +kernel
theorem dX5_listen_26 : decode cX5_listen 26 = .ok (.iload_n 1, 1) := by decide +kernel
theorem dX5_listen_27 : decode cX5_listen 27 = .ok (.iconst 0, 1) := by decide +kernel
theorem dX5_listen_28 : decode cX5_listen 28 = .ok (.invokevirtual 46, 3) := by decide +kernel
theorem dX5_listen_31 : decode cX5_listen 31 = .ok (.aload_n 0, 1) := by decide +kernel
theorem dX5_listen_32 : decode cX5_listen 32 = .ok (.getfield 29, 3) := by decide +kernel
theorem dX5_listen_35 : decode cX5_listen 35 = .ok (.iload_n 1, 1) := by decide +kernel
theorem dX5_listen_36 : decode cX5_listen 36 = .ok (.iconst 1, 1) := by decide +kernel
theorem dX5_listen_37 : decode cX5_listen 37 = .ok (.invokevirtual 163, 3) := by decide +kernel
theorem dX5_listen_40 : decode cX5_listen 40 = .ok (.aload_n 0, 1) := by decide +kernel
theorem dX5_listen_41 : decode cX5_listen 41 = .ok (.getfield 38, 3) := by decide +kernel
theorem dX5_listen_44 : decode cX5_listen 44 = .ok (.iconst 0, 1) := by decide +kernel
theorem dX5_listen_45 : decode cX5_listen 45 = .ok (.iload_n 1, 1) := by decide +kernel
theorem dX5_listen_46 : decode cX5_listen 46 = .ok (.aload_n 0, 1) := by decide +kernel
theorem dX5_listen_47 : decode cX5_listen 47 = .ok (.getfield 86, 3) := by decide +kernel
theorem dX5_listen_50 : decode cX5_listen 50 = .ok (.invokevirtual 155, 3) := by decide +kernel
theorem dX5_listen_53 : decode cX5_listen 53 = .ok (.iconst 1, 1) := by decide +kernel
theorem dX5_listen_54 : decode cX5_listen 54 = .ok (.ireturn, 1) := by decide +kernel
theorem dX5_listen_55 : decode cX5_listen 55 = .ok (.aload_n 0, 1) := by decide +kernel
theorem dX5_listen_56 : decode cX5_listen 56 = .ok (.getfield 23, 3) := by decide +kernel
theorem dX5_listen_59 : decode cX5_listen 59 = .ok (.iload_n 1, 1) := by decide +kernel
theorem dX5_listen_60 : decode cX5_listen 60 = .ok (.sipush 256, 3) := by decide +kernel
theorem dX5_listen_63 : decode cX5_listen 63 = .ok (.iload_n 3, 1) := by decide +kernel
theorem dX5_listen_64 : decode cX5_listen 64 = .ok (.imul, 1) := by decide +kernel
theorem dX5_listen_65 : decode cX5_listen 65 = .ok (.aload_n 0, 1) := by decide +kernel
theorem dX5_listen_66 : decode cX5_listen 66 = .ok (.getfield 23, 3) := by decide +kernel
theorem dX5_listen_69 : decode cX5_listen 69 = .ok (.iload_n 1, 1) := by decide +kernel
theorem dX5_listen_70 : decode cX5_listen 70 = .ok (.invokevirtual 99, 3) := by decide +kernel
theorem dX5_listen_73 : decode cX5_listen 73 = .ok (.isub, 1) := by decide +kernel
theorem dX5_listen_74 : decode cX5_listen 74 = .ok (.bipush 16, 2) := by decide +kernel
theorem dX5_listen_76 : decode cX5_listen 76 = .ok (.invokestatic 166, 3) := by decide +kernel
theorem dX5_listen_79 : decode cX5_listen 79 = .ok (.invokevirtual 163, 3) := by decide +kernel
theorem dX5_listen_82 : decode cX5_listen 82 = .ok (.aload_n 0, 1) := by decide +kernel
theorem dX5_listen_83 : decode cX5_listen 83 = .ok (.getfield 26, 3) := by decide +kernel
theorem dX5_listen_86 : decode cX5_listen 86 = .ok (.iload_n 1, 1) := by decide +kernel
theorem dX5_listen_87 : decode cX5_listen 87 = .ok (.iconst 1, 1) := by decide +kernel
theorem dX5_listen_88 : decode cX5_listen 88 = .ok (.invokevirtual 163, 3) := by decide +kernel
theorem dX5_listen_91 : decode cX5_listen 91 = .ok (.aload_n 0, 1) := by decide +kernel
theorem dX5_listen_92 : decode cX5_listen 92 = .ok (.getfield 26, 3) := by decide +kernel
theorem dX5_listen_95 : decode cX5_listen 95 = .ok (.iload_n 1, 1) := by decide +kernel
theorem dX5_listen_96 : decode cX5_listen 96 = .ok (.invokevirtual 99, 3) := by decide +kernel
theorem dX5_listen_99 : decode cX5_listen 99 = .ok (.aload_n 0, 1) := by decide +kernel
theorem dX5_listen_100 : decode cX5_listen 100 = .ok (.getfield 14, 3) := by decide +kernel
theorem dX5_listen_103 : decode cX5_listen 103 = .ok (.iconst 2, 1) := by decide +kernel
theorem dX5_listen_104 : decode cX5_listen 104 = .ok (.invokevirtual 99, 3) := by decide +kernel
theorem dX5_listen_107 : decode cX5_listen 107 = .ok (.if_icmp .lt 17, 3) := by decide +kernel
theorem dX5_listen_110 : decode cX5_listen 110 = .ok (.aload_n 0, 1) := by decide +kernel
theorem dX5_listen_111 : decode cX5_listen 111 = .ok (.getfield 26, 3) := by decide +kernel
theorem dX5_listen_114 : decode cX5_listen 114 = .ok (.iload_n 1, 1) := by decide +kernel
theorem dX5_listen_115 : decode cX5_listen 115 = .ok (.iconst 0, 1) := by decide +kernel
theorem dX5_listen_116 : decode cX5_listen 116 = .ok (.invokevirtual 46, 3) := by decide +kernel
theorem dX5_listen_119 : decode cX5_listen 119 = .ok (.aload_n 0, 1) := by decide +kernel
theorem dX5_listen_120 : decode cX5_listen 120 = .ok (.iload_n 1, 1) := by decide +kernel
theorem dX5_listen_121 : decode cX5_listen 121 = .ok (.invokevirtual 169, 3) := by decide +kernel
theorem dX5_listen_124 : decode cX5_listen 124 = .ok (.iconst 0, 1) := by decide +kernel
theorem dX5_listen_125 : decode cX5_listen 125 = .ok (.ireturn, 1) := by decide +kernel
theorem dX5_retardFast_0 : decode cX5_retardFast 0 = .ok (.aload_n 0, 1) := by decide +kernel
theorem dX5_retardFast_1 : decode cX5_retardFast 1 = .ok (.getfield 14, 3) := by decide +kernel
theorem dX5_retardFast_4 : decode cX5_retardFast 4 = .ok (.iconst 1, 1) := by decide +kernel
theorem dX5_retardFast_5 : decode cX5_retardFast 5 = .ok (.invokevirtual 99, 3) := by decide +kernel
theorem dX5_retardFast_8 : decode cX5_retardFast 8 = .ok (.istore 5, 2) := by decide +kernel
theorem dX5_retardFast_10 : decode cX5_retardFast 10 = .ok (.iload 4, 2) := by decide +kernel
theorem dX5_retardFast_12 : decode cX5_retardFast 12 = .ok (.ifCond .le 16, 3) := by decide +kernel
theorem dX5_retardFast_15 : decode cX5_retardFast 15 = .ok (.iload 5, 2) := by decide +kernel
theorem dX5_retardFast_17 : decode cX5_retardFast 17 = .ok (.iload_n 3, 1) := by decide +kernel
theorem dX5_retardFast_18 : decode cX5_retardFast 18 = .ok (.iload 4, 2) := by decide +kernel
theorem dX5_retardFast_20 : decode cX5_retardFast 20 = .ok (.isub, 1) := by decide +kernel
theorem dX5_retardFast_21 : decode cX5_retardFast 21 = .ok (.imul, 1) := by decide +kernel
theorem dX5_retardFast_22 : decode cX5_retardFast 22 = .ok (.iload 4, 2) := by decide +kernel
theorem dX5_retardFast_24 : decode cX5_retardFast 24 = .ok (.idiv, 1) := by decide +kernel
theorem dX5_retardFast_25 : decode cX5_retardFast 25 = .ok (.goto 4, 3) := by decide +kernel
theorem dX5_retardFast_28 : decode cX5_retardFast 28 = .ok (.iconst 0, 1) := by decide +kernel
theorem dX5_retardFast_29 : decode cX5_retardFast 29 = .ok (.istore 6, 2) := by decide +kernel
theorem dX5_retardFast_31 : decode cX5_retardFast 31 = .ok (.aload_n 0, 1) := by decide +kernel
theorem dX5_retardFast_32 : decode cX5_retardFast 32 = .ok (.getfield 20, 3) := by decide +kernel
theorem dX5_retardFast_35 : decode cX5_retardFast 35 = .ok (.iload_n 1, 1) := by decide +kernel
theorem dX5_retardFast_36 : decode cX5_retardFast 36 = .ok (.invokevirtual 99, 3) := by decide +kernel
theorem dX5_retardFast_39 : decode cX5_retardFast 39 = .ok (.iload 5, 2) := by decide +kernel
theorem dX5_retardFast_41 : decode cX5_retardFast 41 = .ok (.iadd, 1) := by decide +kernel
theorem dX5_retardFast_42 : decode cX5_retardFast 42 = .ok (.iconst 3, 1) := by decide +kernel
theorem dX5_retardFast_43 : decode cX5_retardFast 43 = .ok (.iload 5, 2) := by decide +kernel
theorem dX5_retardFast_45 : decode cX5_retardFast 45 = .ok (.imul, 1) := by decide +kernel
theorem dX5_retardFast_46 : decode cX5_retardFast 46 = .ok (.iload 6, 2) := by decide +kernel
theorem dX5_retardFast_48 : decode cX5_retardFast 48 = .ok (.invokestatic 106, 3) := by decide +kernel
theorem dX5_retardFast_51 : decode cX5_retardFast 51 = .ok (.iadd, 1) := by decide +kernel
theorem dX5_retardFast_52 : decode cX5_retardFast 52 = .ok (.istore 7, 2) := by decide +kernel
theorem dX5_retardFast_54 : decode cX5_retardFast 54 = .ok (.aload_n 0, 1) := by decide +kernel
theorem dX5_retardFast_55 : decode cX5_retardFast 55 = .ok (.getfield 14, 3) := by decide +kernel
theorem dX5_retardFast_58 : decode cX5_retardFast 58 = .ok (.iconst 3, 1) := by decide +kernel
theorem dX5_retardFast_59 : decode cX5_retardFast 59 = .ok (.invokevirtual 99, 3) := by decide +kernel
theorem dX5_retardFast_62 : decode cX5_retardFast 62 = .ok (.aload_n 0, 1) := by decide +kernel
theorem dX5_retardFast_63 : decode cX5_retardFast 63 = .ok (.getfield 32, 3) := by decide +kernel
theorem dX5_retardFast_66 : decode cX5_retardFast 66 = .ok (.iload_n 2, 1) := by decide +kernel
theorem dX5_retardFast_67 : decode cX5_retardFast 67 = .ok (.invokevirtual 99, 3) := by decide +kernel
theorem dX5_retardFast_70 : decode cX5_retardFast 70 = .ok (.isub, 1) := by decide +kernel
theorem dX5_retardFast_71 : decode cX5_retardFast 71 = .ok (.istore 8, 2) := by decide +kernel
theorem dX5_retardFast_73 : decode cX5_retardFast 73 = .ok (.aload_n 0, 1) := by decide +kernel
theorem dX5_retardFast_74 : decode cX5_retardFast 74 = .ok (.getfield 20, 3) := by decide +kernel
theorem dX5_retardFast_77 : decode cX5_retardFast 77 = .ok (.iload_n 1, 1) := by decide +kernel
theorem dX5_retardFast_78 : decode cX5_retardFast 78 = .ok (.aload_n 0, 1) := by decide +kernel
theorem dX5_retardFast_79 : decode cX5_retardFast 79 = .ok (.getfield 20, 3) := by decide +kernel
theorem dX5_retardFast_82 : decode cX5_retardFast 82 = .ok (.iload_n 1, 1) := by decide +kernel
theorem dX5_retardFast_83 : decode cX5_retardFast 83 = .ok (.invokevirtual 99, 3) := by decide +kernel
theorem dX5_retardFast_86 : decode cX5_retardFast 86 = .ok (.iload 7, 2) := by decide +kernel
theorem dX5_retardFast_88 : decode cX5_retardFast 88 = .ok (.iload 8, 2) := by decide +kernel
theorem dX5_retardFast_90 : decode cX5_retardFast 90 = .ok (.invokestatic 106, 3) := by decide +kernel
theorem dX5_retardFast_93 : decode cX5_retardFast 93 = .ok (.invokestatic 123, 3) := by decide +kernel
theorem dX5_retardFast_96 : decode cX5_retardFast 96 = .ok (.invokevirtual 46, 3) := by decide +kernel
theorem dX5_retardFast_99 : decode cX5_retardFast 99 = .ok (.return_, 1) := by decide +kernel
theorem dX5_lowerFast_0 : decode cX5_lowerFast 0 = .ok (.aload_n 0, 1) := by decide +kernel
theorem dX5_lowerFast_1 : decode cX5_lowerFast 1 = .ok (.getfield 20, 3) := by decide +kernel
theorem dX5_lowerFast_4 : decode cX5_lowerFast 4 = .ok (.iload_n 1, 1) := by decide +kernel
theorem dX5_lowerFast_5 : decode cX5_lowerFast 5 = .ok (.invokevirtual 99, 3) := by decide +kernel
theorem dX5_lowerFast_8 : decode cX5_lowerFast 8 = .ok (.ifCond .le 12, 3) := by decide +kernel
theorem dX5_lowerFast_11 : decode cX5_lowerFast 11 = .ok (.aload_n 0, 1) := by decide +kernel
theorem dX5_lowerFast_12 : decode cX5_lowerFast 12 = .ok (.getfield 20, 3) := by decide +kernel
theorem dX5_lowerFast_15 : decode cX5_lowerFast 15 = .ok (.iload_n 1, 1) := by decide +kernel
theorem dX5_lowerFast_16 : decode cX5_lowerFast 16 = .ok (.iconst (-1), 1) := by decide +kernel
theorem dX5_lowerFast_17 : decode cX5_lowerFast 17 = .ok (.invokevirtual 163, 3) := by decide +kernel
theorem dX5_lowerFast_20 : decode cX5_lowerFast 20 = .ok (.return_, 1) := by decide +kernel
theorem dX5_keepTogether_0 : decode cX5_keepTogether 0 = .ok (.aload_n 0, 1) := by decide +kernel
theorem dX5_keepTogether_1 : decode cX5_keepTogether 1 = .ok (.invokevirtual 172, 3) := by decide +kernel
theorem dX5_keepTogether_4 : decode cX5_keepTogether 4 = .ok (.aload_n 0, 1) := by decide +kernel
theorem dX5_keepTogether_5 : decode cX5_keepTogether 5 = .ok (.getfield 14, 3) := by decide +kernel
theorem dX5_keepTogether_8 : decode cX5_keepTogether 8 = .ok (.iconst 4, 1) := by decide +kernel
theorem dX5_keepTogether_9 : decode cX5_keepTogether 9 = .ok (.invokevirtual 99, 3) := by decide +kernel
theorem dX5_keepTogether_12 : decode cX5_keepTogether 12 = .ok (.isub, 1) := by decide +kernel
theorem dX5_keepTogether_13 : decode cX5_keepTogether 13 = .ok (.istore_n 1, 1) := by decide +kernel
theorem dX5_keepTogether_14 : decode cX5_keepTogether 14 = .ok (.iconst 0, 1) := by decide +kernel
theorem dX5_keepTogether_15 : decode cX5_keepTogether 15 = .ok (.istore_n 2, 1) := by decide +kernel
theorem dX5_keepTogether_16 : decode cX5_keepTogether 16 = .ok (.iload_n 2, 1) := by decide +kernel
theorem dX5_keepTogether_17 : decode cX5_keepTogether 17 = .ok (.aload_n 0, 1) := by decide +kernel
theorem dX5_keepTogether_18 : decode cX5_keepTogether 18 = .ok (.getfield 61, 3) := by decide +kernel
theorem dX5_keepTogether_21 : decode cX5_keepTogether 21 = .ok (.if_icmp .ge 29, 3) := by decide +kernel
theorem dX5_keepTogether_24 : decode cX5_keepTogether 24 = .ok (.aload_n 0, 1) := by decide +kernel
theorem dX5_keepTogether_25 : decode cX5_keepTogether 25 = .ok (.getfield 20, 3) := by decide +kernel
theorem dX5_keepTogether_28 : decode cX5_keepTogether 28 = .ok (.iload_n 2, 1) := by decide +kernel
theorem dX5_keepTogether_29 : decode cX5_keepTogether 29 = .ok (.aload_n 0, 1) := by decide +kernel
theorem dX5_keepTogether_30 : decode cX5_keepTogether 30 = .ok (.getfield 20, 3) := by decide +kernel
theorem dX5_keepTogether_33 : decode cX5_keepTogether 33 = .ok (.iload_n 2, 1) := by decide +kernel
theorem dX5_keepTogether_34 : decode cX5_keepTogether 34 = .ok (.invokevirtual 99, 3) := by decide +kernel
theorem dX5_keepTogether_37 : decode cX5_keepTogether 37 = .ok (.iload_n 1, 1) := by decide +kernel
theorem dX5_keepTogether_38 : decode cX5_keepTogether 38 = .ok (.invokestatic 123, 3) := by decide +kernel
theorem dX5_keepTogether_41 : decode cX5_keepTogether 41 = .ok (.invokevirtual 46, 3) := by decide +kernel
theorem dX5_keepTogether_44 : decode cX5_keepTogether 44 = .ok (.iinc 2 1, 3) := by decide +kernel
theorem dX5_keepTogether_47 : decode cX5_keepTogether 47 = .ok (.goto (-31), 3) := by decide +kernel
theorem dX5_keepTogether_50 : decode cX5_keepTogether 50 = .ok (.return_, 1) := by decide +kernel
theorem dX5_learn_0 : decode cX5_learn 0 = .ok (.aload_n 0, 1) := by decide +kernel
theorem dX5_learn_1 : decode cX5_learn 1 = .ok (.getfield 61, 3) := by decide +kernel
theorem dX5_learn_4 : decode cX5_learn 4 = .ok (.ifCond .le 30, 3) := by decide +kernel
theorem dX5_learn_7 : decode cX5_learn 7 = .ok (.aload_n 0, 1) := by decide +kernel
theorem dX5_learn_8 : decode cX5_learn 8 = .ok (.getfield 71, 3) := by decide +kernel
theorem dX5_learn_11 : decode cX5_learn 11 = .ok (.aload_n 0, 1) := by decide +kernel
theorem dX5_learn_12 : decode cX5_learn 12 = .ok (.getfield 14, 3) := by decide +kernel
theorem dX5_learn_15 : decode cX5_learn 15 = .ok (.iconst 5, 1) := by decide +kernel
theorem dX5_learn_16 : decode cX5_learn 16 = .ok (.invokevirtual 99, 3) := by decide +kernel
theorem dX5_learn_19 : decode cX5_learn 19 = .ok (.if_icmp .lt 15, 3) := by decide +kernel
theorem dX5_learn_22 : decode cX5_learn 22 = .ok (.aload_n 0, 1) := by decide +kernel
theorem dX5_learn_23 : decode cX5_learn 23 = .ok (.getfield 71, 3) := by decide +kernel
theorem dX5_learn_26 : decode cX5_learn 26 = .ok (.aload_n 0, 1) := by decide +kernel
theorem dX5_learn_27 : decode cX5_learn 27 = .ok (.getfield 61, 3) := by decide +kernel
theorem dX5_learn_30 : decode cX5_learn 30 = .ok (.irem, 1) := by decide +kernel
theorem dX5_learn_31 : decode cX5_learn 31 = .ok (.ifCond .eq 4, 3) := by decide +kernel
theorem dX5_learn_34 : decode cX5_learn 34 = .ok (.return_, 1) := by decide +kernel
theorem dX5_learn_35 : decode cX5_learn 35 = .ok (.aload_n 0, 1) := by decide +kernel
theorem dX5_learn_36 : decode cX5_learn 36 = .ok (.invokevirtual 176, 3) := by decide +kernel
theorem dX5_learn_39 : decode cX5_learn 39 = .ok (.aload_n 0, 1) := by decide +kernel
theorem dX5_learn_40 : decode cX5_learn 40 = .ok (.getfield 61, 3) := by decide +kernel
theorem dX5_learn_43 : decode cX5_learn 43 = .ok (.idiv, 1) := by decide +kernel
theorem dX5_learn_44 : decode cX5_learn 44 = .ok (.istore_n 2, 1) := by decide +kernel
theorem dX5_learn_45 : decode cX5_learn 45 = .ok (.aload_n 0, 1) := by decide +kernel
theorem dX5_learn_46 : decode cX5_learn 46 = .ok (.getfield 32, 3) := by decide +kernel
theorem dX5_learn_49 : decode cX5_learn 49 = .ok (.iload_n 1, 1) := by decide +kernel
theorem dX5_learn_50 : decode cX5_learn 50 = .ok (.invokevirtual 99, 3) := by decide +kernel
theorem dX5_learn_53 : decode cX5_learn 53 = .ok (.istore_n 3, 1) := by decide +kernel
theorem dX5_learn_54 : decode cX5_learn 54 = .ok (.iload_n 2, 1) := by decide +kernel
theorem dX5_learn_55 : decode cX5_learn 55 = .ok (.bipush 20, 2) := by decide +kernel
theorem dX5_learn_57 : decode cX5_learn 57 = .ok (.if_icmp .le 60, 3) := by decide +kernel
theorem dX5_learn_60 : decode cX5_learn 60 = .ok (.iload_n 3, 1) := by decide +kernel
theorem dX5_learn_61 : decode cX5_learn 61 = .ok (.bipush 100, 2) := by decide +kernel
theorem dX5_learn_63 : decode cX5_learn 63 = .ok (.if_icmp .ge 54, 3) := by decide +kernel
theorem dX5_learn_66 : decode cX5_learn 66 = .ok (.aload_n 0, 1) := by decide +kernel
theorem dX5_learn_67 : decode cX5_learn 67 = .ok (.getfield 32, 3) := by decide +kernel
theorem dX5_learn_70 : decode cX5_learn 70 = .ok (.iload_n 1, 1) := by decide +kernel
theorem dX5_learn_71 : decode cX5_learn 71 = .ok (.iload_n 3, 1) := by decide +kernel
theorem dX5_learn_72 : decode cX5_learn 72 = .ok (.iconst 1, 1) := by decide +kernel
theorem dX5_learn_73 : decode cX5_learn 73 = .ok (.iadd, 1) := by decide +kernel
theorem dX5_learn_74 : decode cX5_learn 74 = .ok (.invokevirtual 46, 3) := by decide +kernel
theorem dX5_learn_77 : decode cX5_learn 77 = .ok (.iconst 0, 1) := by decide +kernel
theorem dX5_learn_78 : decode cX5_learn 78 = .ok (.istore 4, 2) := by decide +kernel
theorem dX5_learn_80 : decode cX5_learn 80 = .ok (.iload 4, 2) := by decide +kernel
theorem dX5_learn_82 : decode cX5_learn 82 = .ok (.aload_n 0, 1) := by decide +kernel
theorem dX5_learn_83 : decode cX5_learn 83 = .ok (.getfield 61, 3) := by decide +kernel
theorem dX5_learn_86 : decode cX5_learn 86 = .ok (.if_icmp .ge 15, 3) := by decide +kernel
theorem dX5_learn_89 : decode cX5_learn 89 = .ok (.aload_n 0, 1) := by decide +kernel
theorem dX5_learn_90 : decode cX5_learn 90 = .ok (.iload 4, 2) := by decide +kernel
theorem dX5_learn_92 : decode cX5_learn 92 = .ok (.invokevirtual 169, 3) := by decide +kernel
theorem dX5_learn_95 : decode cX5_learn 95 = .ok (.iinc 4 1, 3) := by decide +kernel
theorem dX5_learn_98 : decode cX5_learn 98 = .ok (.goto (-18), 3) := by decide +kernel
theorem dX5_learn_101 : decode cX5_learn 101 = .ok (.aload_n 0, 1) := by decide +kernel
theorem dX5_learn_102 : decode cX5_learn 102 = .ok (.getfield 38, 3) := by decide +kernel
theorem dX5_learn_105 : decode cX5_learn 105 = .ok (.iconst 3, 1) := by decide +kernel
theorem dX5_learn_106 : decode cX5_learn 106 = .ok (.iload_n 1, 1) := by decide +kernel
theorem dX5_learn_107 : decode cX5_learn 107 = .ok (.aload_n 0, 1) := by decide +kernel
theorem dX5_learn_108 : decode cX5_learn 108 = .ok (.getfield 86, 3) := by decide +kernel
theorem dX5_learn_111 : decode cX5_learn 111 = .ok (.invokevirtual 155, 3) := by decide +kernel
theorem dX5_learn_114 : decode cX5_learn 114 = .ok (.goto 36, 3) := by decide +kernel
theorem dX5_learn_117 : decode cX5_learn 117 = .ok (.iload_n 2, 1) := by decide +kernel
theorem dX5_learn_118 : decode cX5_learn 118 = .ok (.iconst 5, 1) := by decide +kernel
theorem dX5_learn_119 : decode cX5_learn 119 = .ok (.if_icmp .ge 31, 3) := by decide +kernel
theorem dX5_learn_122 : decode cX5_learn 122 = .ok (.iload_n 3, 1) := by decide +kernel
theorem dX5_learn_123 : decode cX5_learn 123 = .ok (.ifCond .le 27, 3) := by decide +kernel
theorem dX5_learn_126 : decode cX5_learn 126 = .ok (.aload_n 0, 1) := by decide +kernel
theorem dX5_learn_127 : decode cX5_learn 127 = .ok (.getfield 32, 3) := by decide +kernel
theorem dX5_learn_130 : decode cX5_learn 130 = .ok (.iload_n 1, 1) := by decide +kernel
theorem dX5_learn_131 : decode cX5_learn 131 = .ok (.iload_n 3, 1) := by decide +kernel
theorem dX5_learn_132 : decode cX5_learn 132 = .ok (.iconst 1, 1) := by decide +kernel
theorem dX5_learn_133 : decode cX5_learn 133 = .ok (.isub, 1) := by decide +kernel
theorem dX5_learn_134 : decode cX5_learn 134 = .ok (.invokevirtual 46, 3) := by decide +kernel
theorem dX5_learn_137 : decode cX5_learn 137 = .ok (.aload_n 0, 1) := by decide +kernel
theorem dX5_learn_138 : decode cX5_learn 138 = .ok (.getfield 38, 3) := by decide +kernel
theorem dX5_learn_141 : decode cX5_learn 141 = .ok (.iconst 4, 1) := by decide +kernel
theorem dX5_learn_142 : decode cX5_learn 142 = .ok (.iload_n 1, 1) := by decide +kernel
theorem dX5_learn_143 : decode cX5_learn 143 = .ok (.aload_n 0, 1) := by decide +kernel
theorem dX5_learn_144 : decode cX5_learn 144 = .ok (.getfield 86, 3) := by decide +kernel
theorem dX5_learn_147 : decode cX5_learn 147 = .ok (.invokevirtual 155, 3) := by decide +kernel
theorem dX5_learn_150 : decode cX5_learn 150 = .ok (.return_, 1) := by decide +kernel
theorem dX5_sumOfFast_0 : decode cX5_sumOfFast 0 = .ok (.iconst 0, 1) := by decide +kernel
theorem dX5_sumOfFast_1 : decode cX5_sumOfFast 1 = .ok (.istore_n 1, 1) := by decide +kernel
theorem dX5_sumOfFast_2 : decode cX5_sumOfFast 2 = .ok (.iconst 0, 1) := by decide +kernel
theorem dX5_sumOfFast_3 : decode cX5_sumOfFast 3 = .ok (.istore_n 2, 1) := by decide +kernel
theorem dX5_sumOfFast_4 : decode cX5_sumOfFast 4 = .ok (.iload_n 2, 1) := by decide +kernel
theorem dX5_sumOfFast_5 : decode cX5_sumOfFast 5 = .ok (.aload_n 0, 1) := by decide +kernel
theorem dX5_sumOfFast_6 : decode cX5_sumOfFast 6 = .ok (.getfield 61, 3) := by decide +kernel
theorem dX5_sumOfFast_9 : decode cX5_sumOfFast 9 = .ok (.if_icmp .ge 20, 3) := by decide +kernel
theorem dX5_sumOfFast_12 : decode cX5_sumOfFast 12 = .ok (.iload_n 1, 1) := by decide +kernel
theorem dX5_sumOfFast_13 : decode cX5_sumOfFast 13 = .ok (.aload_n 0, 1) := by decide +kernel
theorem dX5_sumOfFast_14 : decode cX5_sumOfFast 14 = .ok (.getfield 20, 3) := by decide +kernel
theorem dX5_sumOfFast_17 : decode cX5_sumOfFast 17 = .ok (.iload_n 2, 1) := by decide +kernel
theorem dX5_sumOfFast_18 : decode cX5_sumOfFast 18 = .ok (.invokevirtual 99, 3) := by decide +kernel
theorem dX5_sumOfFast_21 : decode cX5_sumOfFast 21 = .ok (.iadd, 1) := by decide +kernel
theorem dX5_sumOfFast_22 : decode cX5_sumOfFast 22 = .ok (.istore_n 1, 1) := by decide +kernel
theorem dX5_sumOfFast_23 : decode cX5_sumOfFast 23 = .ok (.iinc 2 1, 3) := by decide +kernel
theorem dX5_sumOfFast_26 : decode cX5_sumOfFast 26 = .ok (.goto (-22), 3) := by decide +kernel
theorem dX5_sumOfFast_29 : decode cX5_sumOfFast 29 = .ok (.iload_n 1, 1) := by decide +kernel
theorem dX5_sumOfFast_30 : decode cX5_sumOfFast 30 = .ok (.ireturn, 1) := by decide +kernel
theorem dX6_init_0 : decode cX6_init 0 = .ok (.aload_n 0, 1) := by decide +kernel
theorem dX6_init_1 : decode cX6_init 1 = .ok (.invokespecial 3, 3) := by decide +kernel
theorem dX6_init_4 : decode cX6_init 4 = .ok (.aload_n 0, 1) := by decide +kernel
theorem dX6_init_5 : decode cX6_init 5 = .ok (.new 9, 3) := by decide +kernel
theorem dX6_init_8 : decode cX6_init 8 = .ok (.dup, 1) := by decide +kernel
theorem dX6_init_9 : decode cX6_init 9 = .ok (.invokespecial 11, 3) := by decide +kernel
theorem dX6_init_12 : decode cX6_init 12 = .ok (.putfield 12, 3) := by decide +kernel
theorem dX6_init_15 : decode cX6_init 15 = .ok (.aload_n 0, 1) := by decide +kernel
theorem dX6_init_16 : decode cX6_init 16 = .ok (.new 9, 3) := by decide +kernel
theorem dX6_init_19 : decode cX6_init 19 = .ok (.dup, 1) := by decide +kernel
theorem dX6_init_20 : decode cX6_init 20 = .ok (.invokespecial 11, 3) := by decide +kernel
theorem dX6_init_23 : decode cX6_init 23 = .ok (.putfield 16, 3) := by decide +kernel
theorem dX6_init_26 : decode cX6_init 26 = .ok (.aload_n 0, 1) := by decide +kernel
theorem dX6_init_27 : decode cX6_init 27 = .ok (.new 19, 3) := by decide +kernel
theorem dX6_init_30 : decode cX6_init 30 = .ok (.dup, 1) := by decide +kernel
theorem dX6_init_31 : decode cX6_init 31 = .ok (.invokespecial 21, 3) := by decide +kernel
theorem dX6_init_34 : decode cX6_init 34 = .ok (.putfield 22, 3) := by decide +kernel
theorem dX6_init_37 : decode cX6_init 37 = .ok (.aload_n 0, 1) := by decide +kernel
theorem dX6_init_38 : decode cX6_init 38 = .ok (.new 26, 3) := by decide +kernel
theorem dX6_init_41 : decode cX6_init 41 = .ok (.dup, 1) := by decide +kernel
theorem dX6_init_42 : decode cX6_init 42 = .ok (.invokespecial 28, 3) := by decide +kernel
theorem dX6_init_45 : decode cX6_init 45 = .ok (.putfield 29, 3) := by decide +kernel
theorem dX6_init_48 : decode cX6_init 48 = .ok (.return_, 1) := by decide +kernel
theorem dX6_begin_0 : decode cX6_begin 0 = .ok (.iload_n 1, 1) := by decide +kernel
theorem dX6_begin_1 : decode cX6_begin 1 = .ok (.iconst 2, 1) := by decide +kernel
theorem dX6_begin_2 : decode cX6_begin 2 = .ok (.bipush 8, 2) := by decide +kernel
theorem dX6_begin_4 : decode cX6_begin 4 = .ok (.invokestatic 33, 3) := by decide +kernel
theorem dX6_begin_7 : decode cX6_begin 7 = .ok (.invokestatic 37, 3) := by decide +kernel
theorem dX6_begin_10 : decode cX6_begin 10 = .ok (.aload_n 0, 1) := by decide +kernel
theorem dX6_begin_11 : decode cX6_begin 11 = .ok (.getfield 12, 3) := by decide +kernel
theorem dX6_begin_14 : decode cX6_begin 14 = .ok (.getfield 41, 3) := by decide +kernel
theorem dX6_begin_17 : decode cX6_begin 17 = .ok (.istore_n 2, 1) := by decide +kernel
theorem dX6_begin_18 : decode cX6_begin 18 = .ok (.aload_n 0, 1) := by decide +kernel
theorem dX6_begin_19 : decode cX6_begin 19 = .ok (.getfield 22, 3) := by decide +kernel
theorem dX6_begin_22 : decode cX6_begin 22 = .ok (.aload_n 0, 1) := by decide +kernel
theorem dX6_begin_23 : decode cX6_begin 23 = .ok (.getfield 12, 3) := by decide +kernel
theorem dX6_begin_26 : decode cX6_begin 26 = .ok (.invokevirtual 45, 3) := by decide +kernel
theorem dX6_begin_29 : decode cX6_begin 29 = .ok (.aload_n 0, 1) := by decide +kernel
theorem dX6_begin_30 : decode cX6_begin 30 = .ok (.getfield 12, 3) := by decide +kernel
theorem dX6_begin_33 : decode cX6_begin 33 = .ok (.iload_n 1, 1) := by decide +kernel
theorem dX6_begin_34 : decode cX6_begin 34 = .ok (.invokevirtual 49, 3) := by decide +kernel
theorem dX6_begin_37 : decode cX6_begin 37 = .ok (.iload_n 2, 1) := by decide +kernel
theorem dX6_begin_38 : decode cX6_begin 38 = .ok (.ireturn, 1) := by decide +kernel
theorem dX6_set_0 : decode cX6_set 0 = .ok (.iload_n 1, 1) := by decide +kernel
theorem dX6_set_1 : decode cX6_set 1 = .ok (.iload_n 2, 1) := by decide +kernel
theorem dX6_set_2 : decode cX6_set 2 = .ok (.invokestatic 53, 3) := by decide +kernel
theorem dX6_set_5 : decode cX6_set 5 = .ok (.invokestatic 37, 3) := by decide +kernel
theorem dX6_set_8 : decode cX6_set 8 = .ok (.aload_n 0, 1) := by decide +kernel
theorem dX6_set_9 : decode cX6_set 9 = .ok (.getfield 12, 3) := by decide +kernel
theorem dX6_set_12 : decode cX6_set 12 = .ok (.getfield 57, 3) := by decide +kernel
theorem dX6_set_15 : decode cX6_set 15 = .ok (.iload_n 1, 1) := by decide +kernel
theorem dX6_set_16 : decode cX6_set 16 = .ok (.invokevirtual 61, 3) := by decide +kernel
theorem dX6_set_19 : decode cX6_set 19 = .ok (.istore_n 3, 1) := by decide +kernel
theorem dX6_set_20 : decode cX6_set 20 = .ok (.aload_n 0, 1) := by decide +kernel
theorem dX6_set_21 : decode cX6_set 21 = .ok (.getfield 22, 3) := by decide +kernel
theorem dX6_set_24 : decode cX6_set 24 = .ok (.aload_n 0, 1) := by decide +kernel
theorem dX6_set_25 : decode cX6_set 25 = .ok (.getfield 12, 3) := by decide +kernel
theorem dX6_set_28 : decode cX6_set 28 = .ok (.invokevirtual 45, 3) := by decide +kernel
theorem dX6_set_31 : decode cX6_set 31 = .ok (.aload_n 0, 1) := by decide +kernel
theorem dX6_set_32 : decode cX6_set 32 = .ok (.getfield 12, 3) := by decide +kernel
theorem dX6_set_35 : decode cX6_set 35 = .ok (.getfield 57, 3) := by decide +kernel
theorem dX6_set_38 : decode cX6_set 38 = .ok (.iload_n 1, 1) := by decide +kernel
theorem dX6_set_39 : decode cX6_set 39 = .ok (.iload_n 2, 1) := by decide +kernel
theorem dX6_set_40 : decode cX6_set 40 = .ok (.invokevirtual 67, 3) := by decide +kernel
theorem dX6_set_43 : decode cX6_set 43 = .ok (.iload_n 3, 1) := by decide +kernel
theorem dX6_set_44 : decode cX6_set 44 = .ok (.ireturn, 1) := by decide +kernel
theorem dX6_value_0 : decode cX6_value 0 = .ok (.iload_n 1, 1) := by decide +kernel
theorem dX6_value_1 : decode cX6_value 1 = .ok (.iconst 0, 1) := by decide +kernel
theorem dX6_value_2 : decode cX6_value 2 = .ok (.bipush 8, 2) := by decide +kernel
theorem dX6_value_4 : decode cX6_value 4 = .ok (.invokestatic 33, 3) := by decide +kernel
theorem dX6_value_7 : decode cX6_value 7 = .ok (.invokestatic 37, 3) := by decide +kernel
theorem dX6_value_10 : decode cX6_value 10 = .ok (.aload_n 0, 1) := by decide +kernel
theorem dX6_value_11 : decode cX6_value 11 = .ok (.getfield 12, 3) := by decide +kernel
theorem dX6_value_14 : decode cX6_value 14 = .ok (.iload_n 1, 1) := by decide +kernel
theorem dX6_value_15 : decode cX6_value 15 = .ok (.invokevirtual 71, 3) := by decide +kernel
theorem dX6_value_18 : decode cX6_value 18 = .ok (.ireturn, 1) := by decide +kernel
theorem dX6_teach_0 : decode cX6_teach 0 = .ok (.iload_n 1, 1) := by decide +kernel
theorem dX6_teach_1 : decode cX6_teach 1 = .ok (.iload_n 2, 1) := by decide +kernel
theorem dX6_teach_2 : decode cX6_teach 2 = .ok (.invokestatic 74, 3) := by decide +kernel
theorem dX6_teach_5 : decode cX6_teach 5 = .ok (.invokestatic 77, 3) := by decide +kernel
theorem dX6_teach_8 : decode cX6_teach 8 = .ok (.iload_n 3, 1) := by decide +kernel
theorem dX6_teach_9 : decode cX6_teach 9 = .ok (.iconst 0, 1) := by decide +kernel
theorem dX6_teach_10 : decode cX6_teach 10 = .ok (.bipush 100, 2) := by decide +kernel
theorem dX6_teach_12 : decode cX6_teach 12 = .ok (.invokestatic 33, 3) := by decide +kernel
theorem dX6_teach_15 : decode cX6_teach 15 = .ok (.invokestatic 37, 3) := by decide +kernel
theorem dX6_teach_18 : decode cX6_teach 18 = .ok (.iconst 4, 1) := by decide +kernel
theorem dX6_teach_19 : decode cX6_teach 19 = .ok (.iload_n 1, 1) := by decide +kernel
theorem dX6_teach_20 : decode cX6_teach 20 = .ok (.imul, 1) := by decide +kernel
theorem dX6_teach_21 : decode cX6_teach 21 = .ok (.iload_n 2, 1) := by decide +kernel
theorem dX6_teach_22 : decode cX6_teach 22 = .ok (.iadd, 1) := by decide +kernel
theorem dX6_teach_23 : decode cX6_teach 23 = .ok (.istore 4, 2) := by decide +kernel
theorem dX6_teach_25 : decode cX6_teach 25 = .ok (.aload_n 0, 1) := by decide +kernel
theorem dX6_teach_26 : decode cX6_teach 26 = .ok (.getfield 12, 3) := by decide +kernel
theorem dX6_teach_29 : decode cX6_teach 29 = .ok (.getfield 80, 3) := by decide +kernel
theorem dX6_teach_32 : decode cX6_teach 32 = .ok (.iload 4, 2) := by decide +kernel
theorem dX6_teach_34 : decode cX6_teach 34 = .ok (.invokevirtual 61, 3) := by decide +kernel
theorem dX6_teach_37 : decode cX6_teach 37 = .ok (.istore 5, 2) := by decide +kernel
theorem dX6_teach_39 : decode cX6_teach 39 = .ok (.aload_n 0, 1) := by decide +kernel
theorem dX6_teach_40 : decode cX6_teach 40 = .ok (.getfield 22, 3) := by decide +kernel
theorem dX6_teach_43 : decode cX6_teach 43 = .ok (.aload_n 0, 1) := by decide +kernel
theorem dX6_teach_44 : decode cX6_teach 44 = .ok (.getfield 12, 3) := by decide +kernel
theorem dX6_teach_47 : decode cX6_teach 47 = .ok (.invokevirtual 45, 3) := by decide +kernel
theorem dX6_teach_50 : decode cX6_teach 50 = .ok (.aload_n 0, 1) := by decide +kernel
theorem dX6_teach_51 : decode cX6_teach 51 = .ok (.getfield 12, 3) := by decide +kernel
theorem dX6_teach_54 : decode cX6_teach 54 = .ok (.getfield 80, 3) := by decide +kernel
theorem dX6_teach_57 : decode cX6_teach 57 = .ok (.iload 4, 2) := by decide +kernel
theorem dX6_teach_59 : decode cX6_teach 59 = .ok (.iload_n 3, 1) := by decide +kernel
theorem dX6_teach_60 : decode cX6_teach 60 = .ok (.invokevirtual 67, 3) := by decide +kernel
theorem dX6_teach_63 : decode cX6_teach 63 = .ok (.iload 5, 2) := by decide +kernel
theorem dX6_teach_65 : decode cX6_teach 65 = .ok (.ireturn, 1) := by decide +kernel
theorem dX6_breakSensor_0 : decode cX6_breakSensor 0 = .ok (.aload_n 0, 1) := by decide +kernel
theorem dX6_breakSensor_1 : decode cX6_breakSensor 1 = .ok (.getfield 12, 3) := by decide +kernel
theorem dX6_breakSensor_4 : decode cX6_breakSensor 4 = .ok (.getfield 83, 3) := by decide +kernel
theorem dX6_breakSensor_7 : decode cX6_breakSensor 7 = .ok (.istore_n 2, 1) := by decide +kernel
theorem dX6_breakSensor_8 : decode cX6_breakSensor 8 = .ok (.aload_n 0, 1) := by decide +kernel
theorem dX6_breakSensor_9 : decode cX6_breakSensor 9 = .ok (.getfield 22, 3) := by decide +kernel
theorem dX6_breakSensor_12 : decode cX6_breakSensor 12 = .ok (.aload_n 0, 1) := by decide +kernel
theorem dX6_breakSensor_13 : decode cX6_breakSensor 13 = .ok (.getfield 12, 3) := by decide +kernel
theorem dX6_breakSensor_16 : decode cX6_breakSensor 16 = .ok (.invokevirtual 45, 3) := by decide +kernel
theorem dX6_breakSensor_19 : decode cX6_breakSensor 19 = .ok (.aload_n 0, 1) := by decide +kernel
theorem dX6_breakSensor_20 : decode cX6_breakSensor 20 = .ok (.getfield 12, 3) := by decide +kernel
theorem dX6_breakSensor_23 : decode cX6_breakSensor 23 = .ok (.iload_n 1, 1) := by decide +kernel
theorem dX6_breakSensor_24 : decode cX6_breakSensor 24 = .ok (.putfield 83, 3) := by decide +kernel
theorem dX6_breakSensor_27 : decode cX6_breakSensor 27 = .ok (.iload_n 2, 1) := by decide +kernel
theorem dX6_breakSensor_28 : decode cX6_breakSensor 28 = .ok (.ireturn, 1) := by decide +kernel
theorem dX6_seed_0 : decode cX6_seed 0 = .ok (.iload_n 1, 1) := by decide +kernel
theorem dX6_seed_1 : decode cX6_seed 1 = .ok (.iconst 0, 1) := by decide +kernel
theorem dX6_seed_2 : decode cX6_seed 2 = .ok (.ldc 87, 2) := by decide +kernel
theorem dX6_seed_4 : decode cX6_seed 4 = .ok (.invokestatic 33, 3) := by decide +kernel
theorem dX6_seed_7 : decode cX6_seed 7 = .ok (.invokestatic 37, 3) := by decide +kernel
theorem dX6_seed_10 : decode cX6_seed 10 = .ok (.aload_n 0, 1) := by decide +kernel
theorem dX6_seed_11 : decode cX6_seed 11 = .ok (.getfield 12, 3) := by decide +kernel
theorem dX6_seed_14 : decode cX6_seed 14 = .ok (.getfield 88, 3) := by decide +kernel
theorem dX6_seed_17 : decode cX6_seed 17 = .ok (.istore_n 2, 1) := by decide +kernel
theorem dX6_seed_18 : decode cX6_seed 18 = .ok (.aload_n 0, 1) := by decide +kernel
theorem dX6_seed_19 : decode cX6_seed 19 = .ok (.getfield 22, 3) := by decide +kernel
theorem dX6_seed_22 : decode cX6_seed 22 = .ok (.aload_n 0, 1) := by decide +kernel
theorem dX6_seed_23 : decode cX6_seed 23 = .ok (.getfield 12, 3) := by decide +kernel
theorem dX6_seed_26 : decode cX6_seed 26 = .ok (.invokevirtual 45, 3) := by decide +kernel
theorem dX6_seed_29 : decode cX6_seed 29 = .ok (.aload_n 0, 1) := by decide +kernel
theorem dX6_seed_30 : decode cX6_seed 30 = .ok (.getfield 12, 3) := by decide +kernel
theorem dX6_seed_33 : decode cX6_seed 33 = .ok (.iload_n 1, 1) := by decide +kernel
theorem dX6_seed_34 : decode cX6_seed 34 = .ok (.putfield 88, 3) := by decide +kernel
theorem dX6_seed_37 : decode cX6_seed 37 = .ok (.iload_n 2, 1) := by decide +kernel
theorem dX6_seed_38 : decode cX6_seed 38 = .ok (.ireturn, 1) := by decide +kernel
theorem dX6_fire_0 : decode cX6_fire 0 = .ok (.iload_n 1, 1) := by decide +kernel
theorem dX6_fire_1 : decode cX6_fire 1 = .ok (.iload_n 2, 1) := by decide +kernel
theorem dX6_fire_2 : decode cX6_fire 2 = .ok (.iload_n 3, 1) := by decide +kernel
theorem dX6_fire_3 : decode cX6_fire 3 = .ok (.invokestatic 91, 3) := by decide +kernel
theorem dX6_fire_6 : decode cX6_fire 6 = .ok (.invokestatic 37, 3) := by decide +kernel
theorem dX6_fire_9 : decode cX6_fire 9 = .ok (.aload_n 0, 1) := by decide +kernel
theorem dX6_fire_10 : decode cX6_fire 10 = .ok (.getfield 22, 3) := by decide +kernel
theorem dX6_fire_13 : decode cX6_fire 13 = .ok (.aload_n 0, 1) := by decide +kernel
theorem dX6_fire_14 : decode cX6_fire 14 = .ok (.getfield 12, 3) := by decide +kernel
theorem dX6_fire_17 : decode cX6_fire 17 = .ok (.invokevirtual 45, 3) := by decide +kernel
theorem dX6_fire_20 : decode cX6_fire 20 = .ok (.aload_n 0, 1) := by decide +kernel
theorem dX6_fire_21 : decode cX6_fire 21 = .ok (.getfield 12, 3) := by decide +kernel
theorem dX6_fire_24 : decode cX6_fire 24 = .ok (.iload_n 1, 1) := by decide +kernel
theorem dX6_fire_25 : decode cX6_fire 25 = .ok (.iload_n 2, 1) := by decide +kernel
theorem dX6_fire_26 : decode cX6_fire 26 = .ok (.iload_n 3, 1) := by decide +kernel
theorem dX6_fire_27 : decode cX6_fire 27 = .ok (.invokevirtual 94, 3) := by decide +kernel
theorem dX6_fire_30 : decode cX6_fire 30 = .ok (.ireturn, 1) := by decide +kernel
theorem dX6_drive_0 : decode cX6_drive 0 = .ok (.iload_n 1, 1) := by decide +kernel
theorem dX6_drive_1 : decode cX6_drive 1 = .ok (.iload_n 2, 1) := by decide +kernel
theorem dX6_drive_2 : decode cX6_drive 2 = .ok (.iload_n 3, 1) := by decide +kernel
theorem dX6_drive_3 : decode cX6_drive 3 = .ok (.invokestatic 98, 3) := by decide +kernel
theorem dX6_drive_6 : decode cX6_drive 6 = .ok (.ifCond .eq 19, 3) := by decide +kernel
theorem dX6_drive_9 : decode cX6_drive 9 = .ok (.iload 4, 2) := by decide +kernel
theorem dX6_drive_11 : decode cX6_drive 11 = .ok (.iconst 0, 1) := by decide +kernel
theorem dX6_drive_12 : decode cX6_drive 12 = .ok (.sipush 1000, 3) := by decide +kernel
theorem dX6_drive_15 : decode cX6_drive 15 = .ok (.invokestatic 33, 3) := by decide +kernel
theorem dX6_drive_18 : decode cX6_drive 18 = .ok (.ifCond .eq 7, 3) := by decide +kernel
theorem dX6_drive_21 : decode cX6_drive 21 = .ok (.iconst 1, 1) := by decide +kernel
theorem dX6_drive_22 : decode cX6_drive 22 = .ok (.goto 4, 3) := by decide +kernel
theorem dX6_drive_25 : decode cX6_drive 25 = .ok (.iconst 0, 1) := by decide +kernel
theorem dX6_drive_26 : decode cX6_drive 26 = .ok (.invokestatic 37, 3) := by decide +kernel
theorem dX6_drive_29 : decode cX6_drive 29 = .ok (.aload_n 0, 1) := by decide +kernel
theorem dX6_drive_30 : decode cX6_drive 30 = .ok (.getfield 22, 3) := by decide +kernel
theorem dX6_drive_33 : decode cX6_drive 33 = .ok (.aload_n 0, 1) := by decide +kernel
theorem dX6_drive_34 : decode cX6_drive 34 = .ok (.getfield 12, 3) := by decide +kernel
theorem dX6_drive_37 : decode cX6_drive 37 = .ok (.invokevirtual 45, 3) := by decide +kernel
theorem dX6_drive_40 : decode cX6_drive 40 = .ok (.iconst 0, 1) := by decide +kernel
theorem dX6_drive_41 : decode cX6_drive 41 = .ok (.istore 5, 2) := by decide +kernel
theorem dX6_drive_43 : decode cX6_drive 43 = .ok (.iconst 0, 1) := by decide +kernel
theorem dX6_drive_44 : decode cX6_drive 44 = .ok (.istore 6, 2) := by decide +kernel
theorem dX6_drive_46 : decode cX6_drive 46 = .ok (.iload 6, 2) := by decide +kernel
theorem dX6_drive_48 : decode cX6_drive 48 = .ok (.iload 4, 2) := by decide +kernel
theorem dX6_drive_50 : decode cX6_drive 50 = .ok (.if_icmp .ge 26, 3) := by decide +kernel
theorem dX6_drive_53 : decode cX6_drive 53 = .ok (.aload_n 0, 1) := by decide +kernel
theorem dX6_drive_54 : decode cX6_drive 54 = .ok (.getfield 12, 3) := by decide +kernel
theorem dX6_drive_57 : decode cX6_drive 57 = .ok (.iload_n 1, 1) := by decide +kernel
theorem dX6_drive_58 : decode cX6_drive 58 = .ok (.iload_n 2, 1) := by decide +kernel
theorem dX6_drive_59 : decode cX6_drive 59 = .ok (.iload_n 3, 1) := by decide +kernel
theorem dX6_drive_60 : decode cX6_drive 60 = .ok (.invokevirtual 101, 3) := by decide +kernel
theorem dX6_drive_63 : decode cX6_drive 63 = .ok (.iconst 1, 1) := by decide +kernel
theorem dX6_drive_64 : decode cX6_drive 64 = .ok (.if_icmp .ne 6, 3) := by decide +kernel
theorem dX6_drive_67 : decode cX6_drive 67 = .ok (.iinc 5 1, 3) := by decide +kernel
theorem dX6_drive_70 : decode cX6_drive 70 = .ok (.iinc 6 1, 3) := by decide +kernel
theorem dX6_drive_73 : decode cX6_drive 73 = .ok (.goto (-27), 3) := by decide +kernel
theorem dX6_drive_76 : decode cX6_drive 76 = .ok (.iload 5, 2) := by decide +kernel
theorem dX6_drive_78 : decode cX6_drive 78 = .ok (.ireturn, 1) := by decide +kernel
theorem dX6_firings_0 : decode cX6_firings 0 = .ok (.aload_n 0, 1) := by decide +kernel
theorem dX6_firings_1 : decode cX6_firings 1 = .ok (.getfield 12, 3) := by decide +kernel
theorem dX6_firings_4 : decode cX6_firings 4 = .ok (.getfield 41, 3) := by decide +kernel
theorem dX6_firings_7 : decode cX6_firings 7 = .ok (.ireturn, 1) := by decide +kernel
theorem dX6_next_0 : decode cX6_next 0 = .ok (.aload_n 0, 1) := by decide +kernel
theorem dX6_next_1 : decode cX6_next 1 = .ok (.getfield 12, 3) := by decide +kernel
theorem dX6_next_4 : decode cX6_next 4 = .ok (.getfield 104, 3) := by decide +kernel
theorem dX6_next_7 : decode cX6_next 7 = .ok (.ireturn, 1) := by decide +kernel
theorem dX6_cylinder_0 : decode cX6_cylinder 0 = .ok (.aload_n 0, 1) := by decide +kernel
theorem dX6_cylinder_1 : decode cX6_cylinder 1 = .ok (.iload_n 1, 1) := by decide +kernel
theorem dX6_cylinder_2 : decode cX6_cylinder 2 = .ok (.invokevirtual 107, 3) := by decide +kernel
theorem dX6_cylinder_5 : decode cX6_cylinder 5 = .ok (.invokestatic 77, 3) := by decide +kernel
theorem dX6_cylinder_8 : decode cX6_cylinder 8 = .ok (.iload_n 2, 1) := by decide +kernel
theorem dX6_cylinder_9 : decode cX6_cylinder 9 = .ok (.iconst 0, 1) := by decide +kernel
theorem dX6_cylinder_10 : decode cX6_cylinder 10 = .ok (.iconst 4, 1) := by decide +kernel
theorem dX6_cylinder_11 : decode cX6_cylinder 11 = .ok (.invokestatic 33, 3) := by decide +kernel
theorem dX6_cylinder_14 : decode cX6_cylinder 14 = .ok (.invokestatic 37, 3) := by decide +kernel
theorem dX6_cylinder_17 : decode cX6_cylinder 17 = .ok (.aload_n 0, 1) := by decide +kernel
theorem dX6_cylinder_18 : decode cX6_cylinder 18 = .ok (.getfield 12, 3) := by decide +kernel
theorem dX6_cylinder_21 : decode cX6_cylinder 21 = .ok (.iload_n 1, 1) := by decide +kernel
theorem dX6_cylinder_22 : decode cX6_cylinder 22 = .ok (.iload_n 2, 1) := by decide +kernel
theorem dX6_cylinder_23 : decode cX6_cylinder 23 = .ok (.invokevirtual 111, 3) := by decide +kernel
theorem dX6_cylinder_26 : decode cX6_cylinder 26 = .ok (.ireturn, 1) := by decide +kernel
theorem dX6_learned_0 : decode cX6_learned 0 = .ok (.iload_n 1, 1) := by decide +kernel
theorem dX6_learned_1 : decode cX6_learned 1 = .ok (.iload_n 2, 1) := by decide +kernel
theorem dX6_learned_2 : decode cX6_learned 2 = .ok (.invokestatic 74, 3) := by decide +kernel
theorem dX6_learned_5 : decode cX6_learned 5 = .ok (.invokestatic 77, 3) := by decide +kernel
theorem dX6_learned_8 : decode cX6_learned 8 = .ok (.aload_n 0, 1) := by decide +kernel
theorem dX6_learned_9 : decode cX6_learned 9 = .ok (.getfield 12, 3) := by decide +kernel
theorem dX6_learned_12 : decode cX6_learned 12 = .ok (.getfield 80, 3) := by decide +kernel
theorem dX6_learned_15 : decode cX6_learned 15 = .ok (.iconst 4, 1) := by decide +kernel
theorem dX6_learned_16 : decode cX6_learned 16 = .ok (.iload_n 1, 1) := by decide +kernel
theorem dX6_learned_17 : decode cX6_learned 17 = .ok (.imul, 1) := by decide +kernel
theorem dX6_learned_18 : decode cX6_learned 18 = .ok (.iload_n 2, 1) := by decide +kernel
theorem dX6_learned_19 : decode cX6_learned 19 = .ok (.iadd, 1) := by decide +kernel
theorem dX6_learned_20 : decode cX6_learned 20 = .ok (.invokevirtual 61, 3) := by decide +kernel
theorem dX6_learned_23 : decode cX6_learned 23 = .ok (.ireturn, 1) := by decide +kernel
theorem dX6_angle_0 : decode cX6_angle 0 = .ok (.aload_n 0, 1) := by decide +kernel
theorem dX6_angle_1 : decode cX6_angle 1 = .ok (.iload_n 1, 1) := by decide +kernel
theorem dX6_angle_2 : decode cX6_angle 2 = .ok (.invokevirtual 107, 3) := by decide +kernel
theorem dX6_angle_5 : decode cX6_angle 5 = .ok (.invokestatic 77, 3) := by decide +kernel
theorem dX6_angle_8 : decode cX6_angle 8 = .ok (.iload_n 2, 1) := by decide +kernel
theorem dX6_angle_9 : decode cX6_angle 9 = .ok (.iload_n 3, 1) := by decide +kernel
theorem dX6_angle_10 : decode cX6_angle 10 = .ok (.invokestatic 115, 3) := by decide +kernel
theorem dX6_angle_13 : decode cX6_angle 13 = .ok (.invokestatic 37, 3) := by decide +kernel
theorem dX6_angle_16 : decode cX6_angle 16 = .ok (.iload 4, 2) := by decide +kernel
theorem dX6_angle_18 : decode cX6_angle 18 = .ok (.ifCond .eq 14, 3) := by decide +kernel
theorem dX6_angle_21 : decode cX6_angle 21 = .ok (.aload_n 0, 1) := by decide +kernel
theorem dX6_angle_22 : decode cX6_angle 22 = .ok (.getfield 12, 3) := by decide +kernel
theorem dX6_angle_25 : decode cX6_angle 25 = .ok (.iload_n 1, 1) := by decide +kernel
theorem dX6_angle_26 : decode cX6_angle 26 = .ok (.iload_n 2, 1) := by decide +kernel
theorem dX6_angle_27 : decode cX6_angle 27 = .ok (.iload_n 3, 1) := by decide +kernel
theorem dX6_angle_28 : decode cX6_angle 28 = .ok (.invokevirtual 118, 3) := by decide +kernel
theorem dX6_angle_31 : decode cX6_angle 31 = .ok (.ireturn, 1) := by decide +kernel
theorem dX6_angle_32 : decode cX6_angle 32 = .ok (.aload_n 0, 1) := by decide +kernel
theorem dX6_angle_33 : decode cX6_angle 33 = .ok (.getfield 12, 3) := by decide +kernel
theorem dX6_angle_36 : decode cX6_angle 36 = .ok (.iload_n 1, 1) := by decide +kernel
theorem dX6_angle_37 : decode cX6_angle 37 = .ok (.iload_n 2, 1) := by decide +kernel
theorem dX6_angle_38 : decode cX6_angle 38 = .ok (.iload_n 3, 1) := by decide +kernel
theorem dX6_angle_39 : decode cX6_angle 39 = .ok (.invokestatic 121, 3) := by decide +kernel
theorem dX6_angle_42 : decode cX6_angle 42 = .ok (.invokevirtual 126, 3) := by decide +kernel
theorem dX6_angle_45 : decode cX6_angle 45 = .ok (.ireturn, 1) := by decide +kernel
theorem dX6_status_0 : decode cX6_status 0 = .ok (.iload_n 1, 1) := by decide +kernel
theorem dX6_status_1 : decode cX6_status 1 = .ok (.iconst 0, 1) := by decide +kernel
theorem dX6_status_2 : decode cX6_status 2 = .ok (.iconst 4, 1) := by decide +kernel
theorem dX6_status_3 : decode cX6_status 3 = .ok (.invokestatic 33, 3) := by decide +kernel
theorem dX6_status_6 : decode cX6_status 6 = .ok (.invokestatic 37, 3) := by decide +kernel
theorem dX6_status_9 : decode cX6_status 9 = .ok (.aload_n 0, 1) := by decide +kernel
theorem dX6_status_10 : decode cX6_status 10 = .ok (.getfield 12, 3) := by decide +kernel
theorem dX6_status_13 : decode cX6_status 13 = .ok (.iload_n 1, 1) := by decide +kernel
theorem dX6_status_14 : decode cX6_status 14 = .ok (.invokevirtual 129, 3) := by decide +kernel
theorem dX6_status_17 : decode cX6_status 17 = .ok (.ireturn, 1) := by decide +kernel
theorem dX6_unfairness_0 : decode cX6_unfairness 0 = .ok (.aload_n 0, 1) := by decide +kernel
theorem dX6_unfairness_1 : decode cX6_unfairness 1 = .ok (.getfield 12, 3) := by decide +kernel
theorem dX6_unfairness_4 : decode cX6_unfairness 4 = .ok (.invokevirtual 132, 3) := by decide +kernel
theorem dX6_unfairness_7 : decode cX6_unfairness 7 = .ok (.aload_n 0, 1) := by decide +kernel
theorem dX6_unfairness_8 : decode cX6_unfairness 8 = .ok (.getfield 12, 3) := by decide +kernel
theorem dX6_unfairness_11 : decode cX6_unfairness 11 = .ok (.invokevirtual 136, 3) := by decide +kernel
theorem dX6_unfairness_14 : decode cX6_unfairness 14 = .ok (.isub, 1) := by decide +kernel
theorem dX6_unfairness_15 : decode cX6_unfairness 15 = .ok (.ireturn, 1) := by decide +kernel
theorem dX6_rateBits_0 : decode cX6_rateBits 0 = .ok (.aload_n 0, 1) := by decide +kernel
theorem dX6_rateBits_1 : decode cX6_rateBits 1 = .ok (.getfield 12, 3) := by decide +kernel
theorem dX6_rateBits_4 : decode cX6_rateBits 4 = .ok (.getfield 41, 3) := by decide +kernel
theorem dX6_rateBits_7 : decode cX6_rateBits 7 = .ok (.ifCond .gt 5, 3) := by decide +kernel
theorem dX6_rateBits_10 : decode cX6_rateBits 10 = .ok (.iconst 0, 1) := by decide +kernel
theorem dX6_rateBits_11 : decode cX6_rateBits 11 = .ok (.ireturn, 1) := by decide +kernel
theorem dX6_rateBits_12 : decode cX6_rateBits 12 = .ok (.aload_n 0, 1) := by decide +kernel
theorem dX6_rateBits_13 : decode cX6_rateBits 13 = .ok (.getfield 12, 3) := by decide +kernel
theorem dX6_rateBits_16 : decode cX6_rateBits 16 = .ok (.invokevirtual 139, 3) := by decide +kernel
theorem dX6_rateBits_19 : decode cX6_rateBits 19 = .ok (.i2f, 1) := by decide +kernel
theorem dX6_rateBits_20 : decode cX6_rateBits 20 = .ok (.aload_n 0, 1) := by decide +kernel
theorem dX6_rateBits_21 : decode cX6_rateBits 21 = .ok (.getfield 12, 3) := by decide +kernel
theorem dX6_rateBits_24 : decode cX6_rateBits 24 = .ok (.getfield 41, 3) := by decide +kernel
theorem dX6_rateBits_27 : decode cX6_rateBits 27 = .ok (.i2f, 1) := by decide +kernel
theorem dX6_rateBits_28 : decode cX6_rateBits 28 = .ok (.fdiv, 1) := by decide +kernel
theorem dX6_rateBits_29 : decode cX6_rateBits 29 = .ok (.invokestatic 142, 3) := by decide +kernel
theorem dX6_rateBits_32 : decode cX6_rateBits 32 = .ok (.ireturn, 1) := by decide +kernel
theorem dX6_octane_0 : decode cX6_octane 0 = .ok (.iload_n 1, 1) := by decide +kernel
theorem dX6_octane_1 : decode cX6_octane 1 = .ok (.iconst 0, 1) := by decide +kernel
theorem dX6_octane_2 : decode cX6_octane 2 = .ok (.iconst 3, 1) := by decide +kernel
theorem dX6_octane_3 : decode cX6_octane 3 = .ok (.invokestatic 33, 3) := by decide +kernel
theorem dX6_octane_6 : decode cX6_octane 6 = .ok (.invokestatic 77, 3) := by decide +kernel
theorem dX6_octane_9 : decode cX6_octane 9 = .ok (.iconst 0, 1) := by decide +kernel
theorem dX6_octane_10 : decode cX6_octane 10 = .ok (.istore_n 2, 1) := by decide +kernel
theorem dX6_octane_11 : decode cX6_octane 11 = .ok (.iconst 0, 1) := by decide +kernel
theorem dX6_octane_12 : decode cX6_octane 12 = .ok (.istore_n 3, 1) := by decide +kernel
theorem dX6_octane_13 : decode cX6_octane 13 = .ok (.iconst 0, 1) := by decide +kernel
theorem dX6_octane_14 : decode cX6_octane 14 = .ok (.istore 4, 2) := by decide +kernel
theorem dX6_octane_16 : decode cX6_octane 16 = .ok (.iload 4, 2) := by decide +kernel
theorem dX6_octane_18 : decode cX6_octane 18 = .ok (.bipush 6, 2) := by decide +kernel
theorem dX6_octane_20 : decode cX6_octane 20 = .ok (.if_icmp .ge 40, 3) := by decide +kernel
theorem dX6_octane_23 : decode cX6_octane 23 = .ok (.aload_n 0, 1) := by decide +kernel
theorem dX6_octane_24 : decode cX6_octane 24 = .ok (.getfield 12, 3) := by decide +kernel
theorem dX6_octane_27 : decode cX6_octane 27 = .ok (.getfield 80, 3) := by decide +kernel
theorem dX6_octane_30 : decode cX6_octane 30 = .ok (.iconst 4, 1) := by decide +kernel
theorem dX6_octane_31 : decode cX6_octane 31 = .ok (.iload 4, 2) := by decide +kernel
theorem dX6_octane_33 : decode cX6_octane 33 = .ok (.imul, 1) := by decide +kernel
theorem dX6_octane_34 : decode cX6_octane 34 = .ok (.iload_n 1, 1) := by decide +kernel
theorem dX6_octane_35 : decode cX6_octane 35 = .ok (.iadd, 1) := by decide +kernel
theorem dX6_octane_36 : decode cX6_octane 36 = .ok (.invokevirtual 61, 3) := by decide +kernel
theorem dX6_octane_39 : decode cX6_octane 39 = .ok (.istore 5, 2) := by decide +kernel
theorem dX6_octane_41 : decode cX6_octane 41 = .ok (.iload 5, 2) := by decide +kernel
theorem dX6_octane_43 : decode cX6_octane 43 = .ok (.ifCond .le 11, 3) := by decide +kernel
theorem dX6_octane_46 : decode cX6_octane 46 = .ok (.iload_n 2, 1) := by decide +kernel
theorem dX6_octane_47 : decode cX6_octane 47 = .ok (.iload 5, 2) := by decide +kernel
theorem dX6_octane_49 : decode cX6_octane 49 = .ok (.iadd, 1) := by decide +kernel
theorem dX6_octane_50 : decode cX6_octane 50 = .ok (.istore_n 2, 1) := by decide +kernel
theorem dX6_octane_51 : decode cX6_octane 51 = .ok (.iinc 3 1, 3) := by decide +kernel
theorem dX6_octane_54 : decode cX6_octane 54 = .ok (.iinc 4 1, 3) := by decide +kernel
theorem dX6_octane_57 : decode cX6_octane 57 = .ok (.goto (-41), 3) := by decide +kernel
theorem dX6_octane_60 : decode cX6_octane 60 = .ok (.iload_n 3, 1) := by decide +kernel
theorem dX6_octane_61 : decode cX6_octane 61 = .ok (.ifCond .le 19, 3) := by decide +kernel
theorem dX6_octane_64 : decode cX6_octane 64 = .ok (.ldc2_w 146, 3) := by decide +kernel
theorem dX6_octane_67 : decode cX6_octane 67 = .ok (.iload_n 2, 1) := by decide +kernel
theorem dX6_octane_68 : decode cX6_octane 68 = .ok (.i2d, 1) := by decide +kernel
theorem dX6_octane_69 : decode cX6_octane 69 = .ok (.iload_n 3, 1) := by decide +kernel
theorem dX6_octane_70 : decode cX6_octane 70 = .ok (.i2d, 1) := by decide +kernel
theorem dX6_octane_71 : decode cX6_octane 71 = .ok (.ddiv, 1) := by decide +kernel
theorem dX6_octane_72 : decode cX6_octane 72 = .ok (.ldc2_w 148, 3) := by decide +kernel
theorem dX6_octane_75 : decode cX6_octane 75 = .ok (.ddiv, 1) := by decide +kernel
theorem dX6_octane_76 : decode cX6_octane 76 = .ok (.dsub, 1) := by decide +kernel
theorem dX6_octane_77 : decode cX6_octane 77 = .ok (.goto 6, 3) := by decide +kernel
theorem dX6_octane_80 : decode cX6_octane 80 = .ok (.ldc2_w 146, 3) := by decide +kernel
theorem dX6_octane_83 : decode cX6_octane 83 = .ok (.dreturn, 1) := by decide +kernel
theorem dX6_extreme_0 : decode cX6_extreme 0 = .ok (.iload_n 1, 1) := by decide +kernel
theorem dX6_extreme_1 : decode cX6_extreme 1 = .ok (.iconst 0, 1) := by decide +kernel
theorem dX6_extreme_2 : decode cX6_extreme 2 = .ok (.iload_n 2, 1) := by decide +kernel
theorem dX6_extreme_3 : decode cX6_extreme 3 = .ok (.ifCond .eq 8, 3) := by decide +kernel
theorem dX6_extreme_6 : decode cX6_extreme 6 = .ok (.bipush 6, 2) := by decide +kernel
theorem dX6_extreme_8 : decode cX6_extreme 8 = .ok (.goto 4, 3) := by decide +kernel
theorem dX6_extreme_11 : decode cX6_extreme 11 = .ok (.iconst 4, 1) := by decide +kernel
theorem dX6_extreme_12 : decode cX6_extreme 12 = .ok (.iconst 1, 1) := by decide +kernel
theorem dX6_extreme_13 : decode cX6_extreme 13 = .ok (.isub, 1) := by decide +kernel
theorem dX6_extreme_14 : decode cX6_extreme 14 = .ok (.invokestatic 33, 3) := by decide +kernel
theorem dX6_extreme_17 : decode cX6_extreme 17 = .ok (.invokestatic 77, 3) := by decide +kernel
theorem dX6_extreme_20 : decode cX6_extreme 20 = .ok (.iload_n 2, 1) := by decide +kernel
theorem dX6_extreme_21 : decode cX6_extreme 21 = .ok (.ifCond .eq 9, 3) := by decide +kernel
theorem dX6_extreme_24 : decode cX6_extreme 24 = .ok (.iconst 4, 1) := by decide +kernel
theorem dX6_extreme_25 : decode cX6_extreme 25 = .ok (.iload_n 1, 1) := by decide +kernel
theorem dX6_extreme_26 : decode cX6_extreme 26 = .ok (.imul, 1) := by decide +kernel
theorem dX6_extreme_27 : decode cX6_extreme 27 = .ok (.goto 4, 3) := by decide +kernel
theorem dX6_extreme_30 : decode cX6_extreme 30 = .ok (.iload_n 1, 1) := by decide +kernel
theorem dX6_extreme_31 : decode cX6_extreme 31 = .ok (.istore 4, 2) := by decide +kernel
theorem dX6_extreme_33 : decode cX6_extreme 33 = .ok (.iload_n 2, 1) := by decide +kernel
theorem dX6_extreme_34 : decode cX6_extreme 34 = .ok (.ifCond .eq 7, 3) := by decide +kernel
theorem dX6_extreme_37 : decode cX6_extreme 37 = .ok (.iconst 1, 1) := by decide +kernel
theorem dX6_extreme_38 : decode cX6_extreme 38 = .ok (.goto 4, 3) := by decide +kernel
theorem dX6_extreme_41 : decode cX6_extreme 41 = .ok (.iconst 4, 1) := by decide +kernel
theorem dX6_extreme_42 : decode cX6_extreme 42 = .ok (.istore 5, 2) := by decide +kernel
theorem dX6_extreme_44 : decode cX6_extreme 44 = .ok (.iload_n 2, 1) := by decide +kernel
theorem dX6_extreme_45 : decode cX6_extreme 45 = .ok (.ifCond .eq 7, 3) := by decide +kernel
theorem dX6_extreme_48 : decode cX6_extreme 48 = .ok (.iconst 4, 1) := by decide +kernel
theorem dX6_extreme_49 : decode cX6_extreme 49 = .ok (.goto 5, 3) := by decide +kernel
theorem dX6_extreme_52 : decode cX6_extreme 52 = .ok (.bipush 6, 2) := by decide +kernel
theorem dX6_extreme_54 : decode cX6_extreme 54 = .ok (.istore 6, 2) := by decide +kernel
theorem dX6_extreme_56 : decode cX6_extreme 56 = .ok (.aload_n 0, 1) := by decide +kernel
theorem dX6_extreme_57 : decode cX6_extreme 57 = .ok (.getfield 12, 3) := by decide +kernel
theorem dX6_extreme_60 : decode cX6_extreme 60 = .ok (.getfield 80, 3) := by decide +kernel
theorem dX6_extreme_63 : decode cX6_extreme 63 = .ok (.iload 4, 2) := by decide +kernel
theorem dX6_extreme_65 : decode cX6_extreme 65 = .ok (.invokevirtual 61, 3) := by decide +kernel
theorem dX6_extreme_68 : decode cX6_extreme 68 = .ok (.istore 7, 2) := by decide +kernel
theorem dX6_extreme_70 : decode cX6_extreme 70 = .ok (.iconst 1, 1) := by decide +kernel
theorem dX6_extreme_71 : decode cX6_extreme 71 = .ok (.istore 8, 2) := by decide +kernel
theorem dX6_extreme_73 : decode cX6_extreme 73 = .ok (.iload 8, 2) := by decide +kernel
theorem dX6_extreme_75 : decode cX6_extreme 75 = .ok (.iload 6, 2) := by decide +kernel
theorem dX6_extreme_77 : decode cX6_extreme 77 = .ok (.if_icmp .ge 52, 3) := by decide +kernel
theorem dX6_extreme_80 : decode cX6_extreme 80 = .ok (.aload_n 0, 1) := by decide +kernel
theorem dX6_extreme_81 : decode cX6_extreme 81 = .ok (.getfield 12, 3) := by decide +kernel
theorem dX6_extreme_84 : decode cX6_extreme 84 = .ok (.getfield 80, 3) := by decide +kernel
theorem dX6_extreme_87 : decode cX6_extreme 87 = .ok (.iload 4, 2) := by decide +kernel
theorem dX6_extreme_89 : decode cX6_extreme 89 = .ok (.iload 8, 2) := by decide +kernel
theorem dX6_extreme_91 : decode cX6_extreme 91 = .ok (.iload 5, 2) := by decide +kernel
theorem dX6_extreme_93 : decode cX6_extreme 93 = .ok (.imul, 1) := by decide +kernel
theorem dX6_extreme_94 : decode cX6_extreme 94 = .ok (.iadd, 1) := by decide +kernel
theorem dX6_extreme_95 : decode cX6_extreme 95 = .ok (.invokevirtual 61, 3) := by decide +kernel
theorem dX6_extreme_98 : decode cX6_extreme 98 = .ok (.istore 9, 2) := by decide +kernel
theorem dX6_extreme_100 : decode cX6_extreme 100 = .ok (.iload_n 3, 1) := by decide +kernel
theorem dX6_extreme_101 : decode cX6_extreme 101 = .ok (.ifCond .eq 13, 3) := by decide +kernel
theorem dX6_extreme_104 : decode cX6_extreme 104 = .ok (.iload 7, 2) := by decide +kernel
theorem dX6_extreme_106 : decode cX6_extreme 106 = .ok (.iload 9, 2) := by decide +kernel
theorem dX6_extreme_108 : decode cX6_extreme 108 = .ok (.invokestatic 150, 3) := by decide +kernel
theorem dX6_extreme_111 : decode cX6_extreme 111 = .ok (.goto 10, 3) := by decide +kernel
theorem dX6_extreme_114 : decode cX6_extreme 114 = .ok (.iload 7, 2) := by decide +kernel
theorem dX6_extreme_116 : decode cX6_extreme 116 = .ok (.iload 9, 2) := by decide +kernel
theorem dX6_extreme_118 : decode cX6_extreme 118 = .ok (.invokestatic 155, 3) := by decide +kernel
theorem dX6_extreme_121 : decode cX6_extreme 121 = .ok (.istore 7, 2) := by decide +kernel
theorem dX6_extreme_123 : decode cX6_extreme 123 = .ok (.iinc 8 1, 3) := by decide +kernel
theorem dX6_extreme_126 : decode cX6_extreme 126 = .ok (.goto (-53), 3) := by decide +kernel
theorem dX6_extreme_129 : decode cX6_extreme 129 = .ok (.iload 7, 2) := by decide +kernel
theorem dX6_extreme_131 : decode cX6_extreme 131 = .ok (.ireturn, 1) := by decide +kernel
theorem dX6_events_0 : decode cX6_events 0 = .ok (.aload_n 0, 1) := by decide +kernel
theorem dX6_events_1 : decode cX6_events 1 = .ok (.getfield 12, 3) := by decide +kernel
theorem dX6_events_4 : decode cX6_events 4 = .ok (.getfield 158, 3) := by decide +kernel
theorem dX6_events_7 : decode cX6_events 7 = .ok (.invokevirtual 162, 3) := by decide +kernel
theorem dX6_events_10 : decode cX6_events 10 = .ok (.ireturn, 1) := by decide +kernel
theorem dX6_event_0 : decode cX6_event 0 = .ok (.iload_n 1, 1) := by decide +kernel
theorem dX6_event_1 : decode cX6_event 1 = .ok (.iconst 0, 1) := by decide +kernel
theorem dX6_event_2 : decode cX6_event 2 = .ok (.aload_n 0, 1) := by decide +kernel
theorem dX6_event_3 : decode cX6_event 3 = .ok (.getfield 12, 3) := by decide +kernel
theorem dX6_event_6 : decode cX6_event 6 = .ok (.getfield 158, 3) := by decide +kernel
theorem dX6_event_9 : decode cX6_event 9 = .ok (.invokevirtual 162, 3) := by decide +kernel
theorem dX6_event_12 : decode cX6_event 12 = .ok (.iconst 1, 1) := by decide +kernel
theorem dX6_event_13 : decode cX6_event 13 = .ok (.isub, 1) := by decide +kernel
theorem dX6_event_14 : decode cX6_event 14 = .ok (.invokestatic 33, 3) := by decide +kernel
theorem dX6_event_17 : decode cX6_event 17 = .ok (.invokestatic 77, 3) := by decide +kernel
theorem dX6_event_20 : decode cX6_event 20 = .ok (.iload_n 2, 1) := by decide +kernel
theorem dX6_event_21 : decode cX6_event 21 = .ok (.iconst 0, 1) := by decide +kernel
theorem dX6_event_22 : decode cX6_event 22 = .ok (.iconst 2, 1) := by decide +kernel
theorem dX6_event_23 : decode cX6_event 23 = .ok (.invokestatic 33, 3) := by decide +kernel
theorem dX6_event_26 : decode cX6_event 26 = .ok (.invokestatic 37, 3) := by decide +kernel
theorem dX6_event_29 : decode cX6_event 29 = .ok (.aload_n 0, 1) := by decide +kernel
theorem dX6_event_30 : decode cX6_event 30 = .ok (.getfield 12, 3) := by decide +kernel
theorem dX6_event_33 : decode cX6_event 33 = .ok (.getfield 158, 3) := by decide +kernel
theorem dX6_event_36 : decode cX6_event 36 = .ok (.iload_n 1, 1) := by decide +kernel
theorem dX6_event_37 : decode cX6_event 37 = .ok (.iload_n 2, 1) := by decide +kernel
theorem dX6_event_38 : decode cX6_event 38 = .ok (.invokevirtual 167, 3) := by decide +kernel
theorem dX6_event_41 : decode cX6_event 41 = .ok (.ireturn, 1) := by decide +kernel
theorem dX6_eventsOf_0 : decode cX6_eventsOf 0 = .ok (.iload_n 1, 1) := by decide +kernel
theorem dX6_eventsOf_1 : decode cX6_eventsOf 1 = .ok (.iconst 0, 1) := by decide +kernel
theorem dX6_eventsOf_2 : decode cX6_eventsOf 2 = .ok (.iconst 4, 1) := by decide +kernel
theorem dX6_eventsOf_3 : decode cX6_eventsOf 3 = .ok (.invokestatic 33, 3) := by decide +kernel
theorem dX6_eventsOf_6 : decode cX6_eventsOf 6 = .ok (.invokestatic 37, 3) := by decide +kernel
theorem dX6_eventsOf_9 : decode cX6_eventsOf 9 = .ok (.iconst 0, 1) := by decide +kernel
theorem dX6_eventsOf_10 : decode cX6_eventsOf 10 = .ok (.istore_n 2, 1) := by decide +kernel
theorem dX6_eventsOf_11 : decode cX6_eventsOf 11 = .ok (.iconst 0, 1) := by decide +kernel
theorem dX6_eventsOf_12 : decode cX6_eventsOf 12 = .ok (.istore_n 3, 1) := by decide +kernel
theorem dX6_eventsOf_13 : decode cX6_eventsOf 13 = .ok (.iload_n 3, 1) := by decide +kernel
theorem dX6_eventsOf_14 : decode cX6_eventsOf 14 = .ok (.aload_n 0, 1) := by decide +kernel
theorem dX6_eventsOf_15 : decode cX6_eventsOf 15 = .ok (.getfield 12, 3) := by decide +kernel
theorem dX6_eventsOf_18 : decode cX6_eventsOf 18 = .ok (.getfield 158, 3) := by decide +kernel
theorem dX6_eventsOf_21 : decode cX6_eventsOf 21 = .ok (.invokevirtual 162, 3) := by decide +kernel
theorem dX6_eventsOf_24 : decode cX6_eventsOf 24 = .ok (.if_icmp .ge 28, 3) := by decide +kernel
theorem dX6_eventsOf_27 : decode cX6_eventsOf 27 = .ok (.aload_n 0, 1) := by decide +kernel
theorem dX6_eventsOf_28 : decode cX6_eventsOf 28 = .ok (.getfield 12, 3) := by decide +kernel
theorem dX6_eventsOf_31 : decode cX6_eventsOf 31 = .ok (.getfield 158, 3) := by decide +kernel
theorem dX6_eventsOf_34 : decode cX6_eventsOf 34 = .ok (.iload_n 3, 1) := by decide +kernel
theorem dX6_eventsOf_35 : decode cX6_eventsOf 35 = .ok (.iconst 0, 1) := by decide +kernel
theorem dX6_eventsOf_36 : decode cX6_eventsOf 36 = .ok (.invokevirtual 167, 3) := by decide +kernel
theorem dX6_eventsOf_39 : decode cX6_eventsOf 39 = .ok (.iload_n 1, 1) := by decide +kernel
theorem dX6_eventsOf_40 : decode cX6_eventsOf 40 = .ok (.if_icmp .ne 6, 3) := by decide +kernel
theorem dX6_eventsOf_43 : decode cX6_eventsOf 43 = .ok (.iinc 2 1, 3) := by decide +kernel
theorem dX6_eventsOf_46 : decode cX6_eventsOf 46 = .ok (.iinc 3 1, 3) := by decide +kernel
theorem dX6_eventsOf_49 : decode cX6_eventsOf 49 = .ok (.goto (-36), 3) := by decide +kernel
theorem dX6_eventsOf_52 : decode cX6_eventsOf 52 = .ok (.iload_n 2, 1) := by decide +kernel
theorem dX6_eventsOf_53 : decode cX6_eventsOf 53 = .ok (.ireturn, 1) := by decide +kernel
theorem dX6_limit_0 : decode cX6_limit 0 = .ok (.iload_n 1, 1) := by decide +kernel
theorem dX6_limit_1 : decode cX6_limit 1 = .ok (.iconst (-1), 1) := by decide +kernel
theorem dX6_limit_2 : decode cX6_limit 2 = .ok (.if_icmp .eq 11, 3) := by decide +kernel
theorem dX6_limit_5 : decode cX6_limit 5 = .ok (.aload_n 0, 1) := by decide +kernel
theorem dX6_limit_6 : decode cX6_limit 6 = .ok (.iload_n 1, 1) := by decide +kernel
theorem dX6_limit_7 : decode cX6_limit 7 = .ok (.invokevirtual 107, 3) := by decide +kernel
theorem dX6_limit_10 : decode cX6_limit 10 = .ok (.ifCond .eq 7, 3) := by decide +kernel
theorem dX6_limit_13 : decode cX6_limit 13 = .ok (.iconst 1, 1) := by decide +kernel
theorem dX6_limit_14 : decode cX6_limit 14 = .ok (.goto 4, 3) := by decide +kernel
theorem dX6_limit_17 : decode cX6_limit 17 = .ok (.iconst 0, 1) := by decide +kernel
theorem dX6_limit_18 : decode cX6_limit 18 = .ok (.invokestatic 77, 3) := by decide +kernel
theorem dX6_limit_21 : decode cX6_limit 21 = .ok (.iload_n 2, 1) := by decide +kernel
theorem dX6_limit_22 : decode cX6_limit 22 = .ok (.iload_n 3, 1) := by decide +kernel
theorem dX6_limit_23 : decode cX6_limit 23 = .ok (.iload 4, 2) := by decide +kernel
theorem dX6_limit_25 : decode cX6_limit 25 = .ok (.invokestatic 98, 3) := by decide +kernel
theorem dX6_limit_28 : decode cX6_limit 28 = .ok (.invokestatic 37, 3) := by decide +kernel
theorem dX6_limit_31 : decode cX6_limit 31 = .ok (.iload_n 2, 1) := by decide +kernel
theorem dX6_limit_32 : decode cX6_limit 32 = .ok (.iload_n 3, 1) := by decide +kernel
theorem dX6_limit_33 : decode cX6_limit 33 = .ok (.iload 4, 2) := by decide +kernel
theorem dX6_limit_35 : decode cX6_limit 35 = .ok (.invokestatic 170, 3) := by decide +kernel
theorem dX6_limit_38 : decode cX6_limit 38 = .ok (.istore 5, 2) := by decide +kernel
theorem dX6_limit_40 : decode cX6_limit 40 = .ok (.iload_n 1, 1) := by decide +kernel
theorem dX6_limit_41 : decode cX6_limit 41 = .ok (.iconst (-1), 1) := by decide +kernel
theorem dX6_limit_42 : decode cX6_limit 42 = .ok (.if_icmp .ne 6, 3) := by decide +kernel
theorem dX6_limit_45 : decode cX6_limit 45 = .ok (.iload 5, 2) := by decide +kernel
theorem dX6_limit_47 : decode cX6_limit 47 = .ok (.ireturn, 1) := by decide +kernel
theorem dX6_limit_48 : decode cX6_limit 48 = .ok (.aload_n 0, 1) := by decide +kernel
theorem dX6_limit_49 : decode cX6_limit 49 = .ok (.getfield 12, 3) := by decide +kernel
theorem dX6_limit_52 : decode cX6_limit 52 = .ok (.iload_n 1, 1) := by decide +kernel
theorem dX6_limit_53 : decode cX6_limit 53 = .ok (.iload_n 2, 1) := by decide +kernel
theorem dX6_limit_54 : decode cX6_limit 54 = .ok (.iload_n 3, 1) := by decide +kernel
theorem dX6_limit_55 : decode cX6_limit 55 = .ok (.invokevirtual 118, 3) := by decide +kernel
theorem dX6_limit_58 : decode cX6_limit 58 = .ok (.iload 5, 2) := by decide +kernel
theorem dX6_limit_60 : decode cX6_limit 60 = .ok (.isub, 1) := by decide +kernel
theorem dX6_limit_61 : decode cX6_limit 61 = .ok (.ireturn, 1) := by decide +kernel
theorem dX6_quietAfter_0 : decode cX6_quietAfter 0 = .ok (.iload_n 1, 1) := by decide +kernel
theorem dX6_quietAfter_1 : decode cX6_quietAfter 1 = .ok (.iload_n 2, 1) := by decide +kernel
theorem dX6_quietAfter_2 : decode cX6_quietAfter 2 = .ok (.iload_n 3, 1) := by decide +kernel
theorem dX6_quietAfter_3 : decode cX6_quietAfter 3 = .ok (.invokestatic 98, 3) := by decide +kernel
theorem dX6_quietAfter_6 : decode cX6_quietAfter 6 = .ok (.invokestatic 37, 3) := by decide +kernel
theorem dX6_quietAfter_9 : decode cX6_quietAfter 9 = .ok (.aload_n 0, 1) := by decide +kernel
theorem dX6_quietAfter_10 : decode cX6_quietAfter 10 = .ok (.getfield 16, 3) := by decide +kernel
theorem dX6_quietAfter_13 : decode cX6_quietAfter 13 = .ok (.aload_n 0, 1) := by decide +kernel
theorem dX6_quietAfter_14 : decode cX6_quietAfter 14 = .ok (.getfield 12, 3) := by decide +kernel
theorem dX6_quietAfter_17 : decode cX6_quietAfter 17 = .ok (.invokevirtual 173, 3) := by decide +kernel
theorem dX6_quietAfter_20 : decode cX6_quietAfter 20 = .ok (.iconst 5, 1) := by decide +kernel
theorem dX6_quietAfter_21 : decode cX6_quietAfter 21 = .ok (.aload_n 0, 1) := by decide +kernel
theorem dX6_quietAfter_22 : decode cX6_quietAfter 22 = .ok (.getfield 12, 3) := by decide +kernel
theorem dX6_quietAfter_25 : decode cX6_quietAfter 25 = .ok (.getfield 176, 3) := by decide +kernel
theorem dX6_quietAfter_28 : decode cX6_quietAfter 28 = .ok (.imul, 1) := by decide +kernel
theorem dX6_quietAfter_29 : decode cX6_quietAfter 29 = .ok (.istore 4, 2) := by decide +kernel
theorem dX6_quietAfter_31 : decode cX6_quietAfter 31 = .ok (.iconst 0, 1) := by decide +kernel
theorem dX6_quietAfter_32 : decode cX6_quietAfter 32 = .ok (.istore 5, 2) := by decide +kernel
theorem dX6_quietAfter_34 : decode cX6_quietAfter 34 = .ok (.iconst 1, 1) := by decide +kernel
theorem dX6_quietAfter_35 : decode cX6_quietAfter 35 = .ok (.istore 6, 2) := by decide +kernel
theorem dX6_quietAfter_37 : decode cX6_quietAfter 37 = .ok (.iload 6, 2) := by decide +kernel
theorem dX6_quietAfter_39 : decode cX6_quietAfter 39 = .ok (.sipush 1000, 3) := by decide +kernel
theorem dX6_quietAfter_42 : decode cX6_quietAfter 42 = .ok (.if_icmp .gt 43, 3) := by decide +kernel
theorem dX6_quietAfter_45 : decode cX6_quietAfter 45 = .ok (.aload_n 0, 1) := by decide +kernel
theorem dX6_quietAfter_46 : decode cX6_quietAfter 46 = .ok (.getfield 16, 3) := by decide +kernel
theorem dX6_quietAfter_49 : decode cX6_quietAfter 49 = .ok (.iload_n 1, 1) := by decide +kernel
theorem dX6_quietAfter_50 : decode cX6_quietAfter 50 = .ok (.iload_n 2, 1) := by decide +kernel
theorem dX6_quietAfter_51 : decode cX6_quietAfter 51 = .ok (.iload_n 3, 1) := by decide +kernel
theorem dX6_quietAfter_52 : decode cX6_quietAfter 52 = .ok (.invokevirtual 101, 3) := by decide +kernel
theorem dX6_quietAfter_55 : decode cX6_quietAfter 55 = .ok (.iconst 1, 1) := by decide +kernel
theorem dX6_quietAfter_56 : decode cX6_quietAfter 56 = .ok (.if_icmp .ne 7, 3) := by decide +kernel
theorem dX6_quietAfter_59 : decode cX6_quietAfter 59 = .ok (.iconst 0, 1) := by decide +kernel
theorem dX6_quietAfter_60 : decode cX6_quietAfter 60 = .ok (.goto 7, 3) := by decide +kernel
theorem dX6_quietAfter_63 : decode cX6_quietAfter 63 = .ok (.iload 5, 2) := by decide +kernel
theorem dX6_quietAfter_65 : decode cX6_quietAfter 65 = .ok (.iconst 1, 1) := by decide +kernel
theorem dX6_quietAfter_66 : decode cX6_quietAfter 66 = .ok (.iadd, 1) := by decide +kernel
theorem dX6_quietAfter_67 : decode cX6_quietAfter 67 = .ok (.istore 5, 2) := by decide +kernel
theorem dX6_quietAfter_69 : decode cX6_quietAfter 69 = .ok (.iload 5, 2) := by decide +kernel
theorem dX6_quietAfter_71 : decode cX6_quietAfter 71 = .ok (.iload 4, 2) := by decide +kernel
theorem dX6_quietAfter_73 : decode cX6_quietAfter 73 = .ok (.if_icmp .lt 6, 3) := by decide +kernel
theorem dX6_quietAfter_76 : decode cX6_quietAfter 76 = .ok (.iload 6, 2) := by decide +kernel
theorem dX6_quietAfter_78 : decode cX6_quietAfter 78 = .ok (.ireturn, 1) := by decide +kernel
theorem dX6_quietAfter_79 : decode cX6_quietAfter 79 = .ok (.iinc 6 1, 3) := by decide +kernel
theorem dX6_quietAfter_82 : decode cX6_quietAfter 82 = .ok (.goto (-45), 3) := by decide +kernel
theorem dX6_quietAfter_85 : decode cX6_quietAfter 85 = .ok (.iconst (-1), 1) := by decide +kernel
theorem dX6_quietAfter_86 : decode cX6_quietAfter 86 = .ok (.ireturn, 1) := by decide +kernel
theorem dX6_lowestOctane_0 : decode cX6_lowestOctane 0 = .ok (.iload_n 1, 1) := by decide +kernel
theorem dX6_lowestOctane_1 : decode cX6_lowestOctane 1 = .ok (.iload_n 2, 1) := by decide +kernel
theorem dX6_lowestOctane_2 : decode cX6_lowestOctane 2 = .ok (.invokestatic 115, 3) := by decide +kernel
theorem dX6_lowestOctane_5 : decode cX6_lowestOctane 5 = .ok (.ifCond .eq 17, 3) := by decide +kernel
theorem dX6_lowestOctane_8 : decode cX6_lowestOctane 8 = .ok (.iload_n 3, 1) := by decide +kernel
theorem dX6_lowestOctane_9 : decode cX6_lowestOctane 9 = .ok (.iconst 1, 1) := by decide +kernel
theorem dX6_lowestOctane_10 : decode cX6_lowestOctane 10 = .ok (.bipush 100, 2) := by decide +kernel
theorem dX6_lowestOctane_12 : decode cX6_lowestOctane 12 = .ok (.invokestatic 33, 3) := by decide +kernel
theorem dX6_lowestOctane_15 : decode cX6_lowestOctane 15 = .ok (.ifCond .eq 7, 3) := by decide +kernel
theorem dX6_lowestOctane_18 : decode cX6_lowestOctane 18 = .ok (.iconst 1, 1) := by decide +kernel
theorem dX6_lowestOctane_19 : decode cX6_lowestOctane 19 = .ok (.goto 4, 3) := by decide +kernel
theorem dX6_lowestOctane_22 : decode cX6_lowestOctane 22 = .ok (.iconst 0, 1) := by decide +kernel
theorem dX6_lowestOctane_23 : decode cX6_lowestOctane 23 = .ok (.invokestatic 37, 3) := by decide +kernel
theorem dX6_lowestOctane_26 : decode cX6_lowestOctane 26 = .ok (.bipush 80, 2) := by decide +kernel
theorem dX6_lowestOctane_28 : decode cX6_lowestOctane 28 = .ok (.istore 4, 2) := by decide +kernel
theorem dX6_lowestOctane_30 : decode cX6_lowestOctane 30 = .ok (.iload 4, 2) := by decide +kernel
theorem dX6_lowestOctane_32 : decode cX6_lowestOctane 32 = .ok (.bipush 110, 2) := by decide +kernel
theorem dX6_lowestOctane_34 : decode cX6_lowestOctane 34 = .ok (.if_icmp .gt 24, 3) := by decide +kernel
theorem dX6_lowestOctane_37 : decode cX6_lowestOctane 37 = .ok (.aload_n 0, 1) := by decide +kernel
theorem dX6_lowestOctane_38 : decode cX6_lowestOctane 38 = .ok (.iload_n 1, 1) := by decide +kernel
theorem dX6_lowestOctane_39 : decode cX6_lowestOctane 39 = .ok (.iload_n 2, 1) := by decide +kernel
theorem dX6_lowestOctane_40 : decode cX6_lowestOctane 40 = .ok (.iload 4, 2) := by decide +kernel
theorem dX6_lowestOctane_42 : decode cX6_lowestOctane 42 = .ok (.iload_n 3, 1) := by decide +kernel
theorem dX6_lowestOctane_43 : decode cX6_lowestOctane 43 = .ok (.invokevirtual 179, 3) := by decide +kernel
theorem dX6_lowestOctane_46 : decode cX6_lowestOctane 46 = .ok (.ifCond .eq 6, 3) := by decide +kernel
theorem dX6_lowestOctane_49 : decode cX6_lowestOctane 49 = .ok (.iload 4, 2) := by decide +kernel
theorem dX6_lowestOctane_51 : decode cX6_lowestOctane 51 = .ok (.ireturn, 1) := by decide +kernel
theorem dX6_lowestOctane_52 : decode cX6_lowestOctane 52 = .ok (.iinc 4 1, 3) := by decide +kernel
theorem dX6_lowestOctane_55 : decode cX6_lowestOctane 55 = .ok (.goto (-25), 3) := by decide +kernel
theorem dX6_lowestOctane_58 : decode cX6_lowestOctane 58 = .ok (.iconst (-1), 1) := by decide +kernel
theorem dX6_lowestOctane_59 : decode cX6_lowestOctane 59 = .ok (.ireturn, 1) := by decide +kernel
theorem dX6_staysQuiet_0 : decode cX6_staysQuiet 0 = .ok (.aload_n 0, 1) := by decide +kernel
theorem dX6_staysQuiet_1 : decode cX6_staysQuiet 1 = .ok (.getfield 16, 3) := by decide +kernel
theorem dX6_staysQuiet_4 : decode cX6_staysQuiet 4 = .ok (.aload_n 0, 1) := by decide +kernel
theorem dX6_staysQuiet_5 : decode cX6_staysQuiet 5 = .ok (.getfield 12, 3) := by decide +kernel
theorem dX6_staysQuiet_8 : decode cX6_staysQuiet 8 = .ok (.invokevirtual 173, 3) := by decide +kernel
theorem dX6_staysQuiet_11 : decode cX6_staysQuiet 11 = .ok (.iconst 0, 1) := by decide +kernel
theorem dX6_staysQuiet_12 : decode cX6_staysQuiet 12 = .ok (.istore 5, 2) := by decide +kernel
theorem dX6_staysQuiet_14 : decode cX6_staysQuiet 14 = .ok (.iload 5, 2) := by decide +kernel
theorem dX6_staysQuiet_16 : decode cX6_staysQuiet 16 = .ok (.iload 4, 2) := by decide +kernel
theorem dX6_staysQuiet_18 : decode cX6_staysQuiet 18 = .ok (.if_icmp .ge 25, 3) := by decide +kernel
theorem dX6_staysQuiet_21 : decode cX6_staysQuiet 21 = .ok (.aload_n 0, 1) := by decide +kernel
theorem dX6_staysQuiet_22 : decode cX6_staysQuiet 22 = .ok (.getfield 16, 3) := by decide +kernel
theorem dX6_staysQuiet_25 : decode cX6_staysQuiet 25 = .ok (.iload_n 1, 1) := by decide +kernel
theorem dX6_staysQuiet_26 : decode cX6_staysQuiet 26 = .ok (.iload_n 2, 1) := by decide +kernel
theorem dX6_staysQuiet_27 : decode cX6_staysQuiet 27 = .ok (.iload_n 3, 1) := by decide +kernel
theorem dX6_staysQuiet_28 : decode cX6_staysQuiet 28 = .ok (.invokevirtual 101, 3) := by decide +kernel
theorem dX6_staysQuiet_31 : decode cX6_staysQuiet 31 = .ok (.iconst 1, 1) := by decide +kernel
theorem dX6_staysQuiet_32 : decode cX6_staysQuiet 32 = .ok (.if_icmp .ne 5, 3) := by decide +kernel
theorem dX6_staysQuiet_35 : decode cX6_staysQuiet 35 = .ok (.iconst 0, 1) := by decide +kernel
theorem dX6_staysQuiet_36 : decode cX6_staysQuiet 36 = .ok (.ireturn, 1) := by decide +kernel
theorem dX6_staysQuiet_37 : decode cX6_staysQuiet 37 = .ok (.iinc 5 1, 3) := by decide +kernel
theorem dX6_staysQuiet_40 : decode cX6_staysQuiet 40 = .ok (.goto (-26), 3) := by decide +kernel
theorem dX6_staysQuiet_43 : decode cX6_staysQuiet 43 = .ok (.iconst 1, 1) := by decide +kernel
theorem dX6_staysQuiet_44 : decode cX6_staysQuiet 44 = .ok (.ireturn, 1) := by decide +kernel
theorem dX6_append_0 : decode cX6_append 0 = .ok (.iload_n 1, 1) := by decide +kernel
theorem dX6_append_1 : decode cX6_append 1 = .ok (.iconst 0, 1) := by decide +kernel
theorem dX6_append_2 : decode cX6_append 2 = .ok (.bipush 127, 2) := by decide +kernel
theorem dX6_append_4 : decode cX6_append 4 = .ok (.invokestatic 33, 3) := by decide +kernel
theorem dX6_append_7 : decode cX6_append 7 = .ok (.invokestatic 37, 3) := by decide +kernel
theorem dX6_append_10 : decode cX6_append 10 = .ok (.aload_n 0, 1) := by decide +kernel
theorem dX6_append_11 : decode cX6_append 11 = .ok (.getfield 29, 3) := by decide +kernel
theorem dX6_append_14 : decode cX6_append 14 = .ok (.invokevirtual 183, 3) := by decide +kernel
theorem dX6_append_17 : decode cX6_append 17 = .ok (.bipush 120, 2) := by decide +kernel
theorem dX6_append_19 : decode cX6_append 19 = .ok (.if_icmp .ge 7, 3) := by decide +kernel
theorem dX6_append_22 : decode cX6_append 22 = .ok (.iconst 1, 1) := by decide +kernel
theorem dX6_append_23 : decode cX6_append 23 = .ok (.goto 4, 3) := by decide +kernel
theorem dX6_append_26 : decode cX6_append 26 = .ok (.iconst 0, 1) := by decide +kernel
theorem dX6_append_27 : decode cX6_append 27 = .ok (.invokestatic 184, 3) := by decide +kernel
theorem dX6_append_30 : decode cX6_append 30 = .ok (.aload_n 0, 1) := by decide +kernel
theorem dX6_append_31 : decode cX6_append 31 = .ok (.getfield 29, 3) := by decide +kernel
theorem dX6_append_34 : decode cX6_append 34 = .ok (.iload_n 1, 1) := by decide +kernel
theorem dX6_append_35 : decode cX6_append 35 = .ok (.invokevirtual 187, 3) := by decide +kernel
theorem dX6_append_38 : decode cX6_append 38 = .ok (.aload_n 0, 1) := by decide +kernel
theorem dX6_append_39 : decode cX6_append 39 = .ok (.getfield 29, 3) := by decide +kernel
theorem dX6_append_42 : decode cX6_append 42 = .ok (.invokevirtual 183, 3) := by decide +kernel
theorem dX6_append_45 : decode cX6_append 45 = .ok (.ireturn, 1) := by decide +kernel
theorem dX6_clearText_0 : decode cX6_clearText 0 = .ok (.aload_n 0, 1) := by decide +kernel
theorem dX6_clearText_1 : decode cX6_clearText 1 = .ok (.getfield 29, 3) := by decide +kernel
theorem dX6_clearText_4 : decode cX6_clearText 4 = .ok (.invokevirtual 183, 3) := by decide +kernel
theorem dX6_clearText_7 : decode cX6_clearText 7 = .ok (.istore_n 1, 1) := by decide +kernel
theorem dX6_clearText_8 : decode cX6_clearText 8 = .ok (.aload_n 0, 1) := by decide +kernel
theorem dX6_clearText_9 : decode cX6_clearText 9 = .ok (.getfield 29, 3) := by decide +kernel
theorem dX6_clearText_12 : decode cX6_clearText 12 = .ok (.invokevirtual 190, 3) := by decide +kernel
theorem dX6_clearText_15 : decode cX6_clearText 15 = .ok (.iload_n 1, 1) := by decide +kernel
theorem dX6_clearText_16 : decode cX6_clearText 16 = .ok (.ireturn, 1) := by decide +kernel
theorem dX6_replay_0 : decode cX6_replay 0 = .ok (.aload_n 0, 1) := by decide +kernel
theorem dX6_replay_1 : decode cX6_replay 1 = .ok (.getfield 29, 3) := by decide +kernel
theorem dX6_replay_4 : decode cX6_replay 4 = .ok (.invokevirtual 193, 3) := by decide +kernel
theorem dX6_replay_7 : decode cX6_replay 7 = .ok (.istore_n 1, 1) := by decide +kernel
theorem dX6_replay_8 : decode cX6_replay 8 = .ok (.iload_n 1, 1) := by decide +kernel
theorem dX6_replay_9 : decode cX6_replay 9 = .ok (.iconst (-1), 1) := by decide +kernel
theorem dX6_replay_10 : decode cX6_replay 10 = .ok (.if_icmp .eq 8, 3) := by decide +kernel
theorem dX6_replay_13 : decode cX6_replay 13 = .ok (.bipush (-10), 2) := by decide +kernel
theorem dX6_replay_15 : decode cX6_replay 15 = .ok (.iload_n 1, 1) := by decide +kernel
theorem dX6_replay_16 : decode cX6_replay 16 = .ok (.isub, 1) := by decide +kernel
theorem dX6_replay_17 : decode cX6_replay 17 = .ok (.ireturn, 1) := by decide +kernel
theorem dX6_replay_18 : decode cX6_replay 18 = .ok (.aload_n 0, 1) := by decide +kernel
theorem dX6_replay_19 : decode cX6_replay 19 = .ok (.invokevirtual 196, 3) := by decide +kernel
theorem dX6_replay_22 : decode cX6_replay 22 = .ok (.istore_n 2, 1) := by decide +kernel
theorem dX6_replay_23 : decode cX6_replay 23 = .ok (.iload_n 2, 1) := by decide +kernel
theorem dX6_replay_24 : decode cX6_replay 24 = .ok (.iconst (-1), 1) := by decide +kernel
theorem dX6_replay_25 : decode cX6_replay 25 = .ok (.if_icmp .eq 9, 3) := by decide +kernel
theorem dX6_replay_28 : decode cX6_replay 28 = .ok (.sipush (-1000), 3) := by decide +kernel
theorem dX6_replay_31 : decode cX6_replay 31 = .ok (.iload_n 2, 1) := by decide +kernel
theorem dX6_replay_32 : decode cX6_replay 32 = .ok (.isub, 1) := by decide +kernel
theorem dX6_replay_33 : decode cX6_replay 33 = .ok (.ireturn, 1) := by decide +kernel
theorem dX6_replay_34 : decode cX6_replay 34 = .ok (.aload_n 0, 1) := by decide +kernel
theorem dX6_replay_35 : decode cX6_replay 35 = .ok (.getfield 22, 3) := by decide +kernel
theorem dX6_replay_38 : decode cX6_replay 38 = .ok (.aload_n 0, 1) := by decide +kernel
theorem dX6_replay_39 : decode cX6_replay 39 = .ok (.getfield 12, 3) := by decide +kernel
theorem dX6_replay_42 : decode cX6_replay 42 = .ok (.invokevirtual 45, 3) := by decide +kernel
theorem dX6_replay_45 : decode cX6_replay 45 = .ok (.iconst 0, 1) := by decide +kernel
theorem dX6_replay_46 : decode cX6_replay 46 = .ok (.istore_n 3, 1) := by decide +kernel
theorem dX6_replay_47 : decode cX6_replay 47 = .ok (.iload_n 3, 1) := by decide +kernel
theorem dX6_replay_48 : decode cX6_replay 48 = .ok (.aload_n 0, 1) := by decide +kernel
theorem dX6_replay_49 : decode cX6_replay 49 = .ok (.getfield 29, 3) := by decide +kernel
theorem dX6_replay_52 : decode cX6_replay 52 = .ok (.invokevirtual 199, 3) := by decide +kernel
theorem dX6_replay_55 : decode cX6_replay 55 = .ok (.if_icmp .ge 44, 3) := by decide +kernel
theorem dX6_replay_58 : decode cX6_replay 58 = .ok (.aload_n 0, 1) := by decide +kernel
theorem dX6_replay_59 : decode cX6_replay 59 = .ok (.getfield 12, 3) := by decide +kernel
theorem dX6_replay_62 : decode cX6_replay 62 = .ok (.aload_n 0, 1) := by decide +kernel
theorem dX6_replay_63 : decode cX6_replay 63 = .ok (.getfield 29, 3) := by decide +kernel
theorem dX6_replay_66 : decode cX6_replay 66 = .ok (.iload_n 3, 1) := by decide +kernel
theorem dX6_replay_67 : decode cX6_replay 67 = .ok (.iconst 0, 1) := by decide +kernel
theorem dX6_replay_68 : decode cX6_replay 68 = .ok (.invokevirtual 202, 3) := by decide +kernel
theorem dX6_replay_71 : decode cX6_replay 71 = .ok (.aload_n 0, 1) := by decide +kernel
theorem dX6_replay_72 : decode cX6_replay 72 = .ok (.getfield 29, 3) := by decide +kernel
theorem dX6_replay_75 : decode cX6_replay 75 = .ok (.iload_n 3, 1) := by decide +kernel
theorem dX6_replay_76 : decode cX6_replay 76 = .ok (.iconst 1, 1) := by decide +kernel
theorem dX6_replay_77 : decode cX6_replay 77 = .ok (.invokevirtual 202, 3) := by decide +kernel
theorem dX6_replay_80 : decode cX6_replay 80 = .ok (.aload_n 0, 1) := by decide +kernel
theorem dX6_replay_81 : decode cX6_replay 81 = .ok (.getfield 29, 3) := by decide +kernel
theorem dX6_replay_84 : decode cX6_replay 84 = .ok (.iload_n 3, 1) := by decide +kernel
theorem dX6_replay_85 : decode cX6_replay 85 = .ok (.iconst 2, 1) := by decide +kernel
theorem dX6_replay_86 : decode cX6_replay 86 = .ok (.invokevirtual 202, 3) := by decide +kernel
theorem dX6_replay_89 : decode cX6_replay 89 = .ok (.invokevirtual 94, 3) := by decide +kernel
theorem dX6_replay_92 : decode cX6_replay 92 = .ok (.pop, 1) := by decide +kernel
theorem dX6_replay_93 : decode cX6_replay 93 = .ok (.iinc 3 1, 3) := by decide +kernel
theorem dX6_replay_96 : decode cX6_replay 96 = .ok (.goto (-49), 3) := by decide +kernel
theorem dX6_replay_99 : decode cX6_replay 99 = .ok (.aload_n 0, 1) := by decide +kernel
theorem dX6_replay_100 : decode cX6_replay 100 = .ok (.getfield 29, 3) := by decide +kernel
theorem dX6_replay_103 : decode cX6_replay 103 = .ok (.invokevirtual 199, 3) := by decide +kernel
theorem dX6_replay_106 : decode cX6_replay 106 = .ok (.ireturn, 1) := by decide +kernel
theorem dX6_firstWrongFiring_0 : decode cX6_firstWrongFiring 0 = .ok (.iconst 0, 1) := by decide +kernel
theorem dX6_firstWrongFiring_1 : decode cX6_firstWrongFiring 1 = .ok (.istore_n 1, 1) := by decide +kernel
theorem dX6_firstWrongFiring_2 : decode cX6_firstWrongFiring 2 = .ok (.iload_n 1, 1) := by decide +kernel
theorem dX6_firstWrongFiring_3 : decode cX6_firstWrongFiring 3 = .ok (.aload_n 0, 1) := by decide +kernel
theorem dX6_firstWrongFiring_4 : decode cX6_firstWrongFiring 4 = .ok (.getfield 29, 3) := by decide +kernel
theorem dX6_firstWrongFiring_7 : decode cX6_firstWrongFiring 7 = .ok (.invokevirtual 199, 3) := by decide +kernel
theorem dX6_firstWrongFiring_10 : decode cX6_firstWrongFiring 10 = .ok (.if_icmp .ge 44, 3) := by decide +kernel
theorem dX6_firstWrongFiring_13 : decode cX6_firstWrongFiring 13 = .ok (.aload_n 0, 1) := by decide +kernel
theorem dX6_firstWrongFiring_14 : decode cX6_firstWrongFiring 14 = .ok (.getfield 29, 3) := by decide +kernel
theorem dX6_firstWrongFiring_17 : decode cX6_firstWrongFiring 17 = .ok (.iload_n 1, 1) := by decide +kernel
theorem dX6_firstWrongFiring_18 : decode cX6_firstWrongFiring 18 = .ok (.iconst 0, 1) := by decide +kernel
theorem dX6_firstWrongFiring_19 : decode cX6_firstWrongFiring 19 = .ok (.invokevirtual 202, 3) := by decide +kernel
theorem dX6_firstWrongFiring_22 : decode cX6_firstWrongFiring 22 = .ok (.aload_n 0, 1) := by decide +kernel
theorem dX6_firstWrongFiring_23 : decode cX6_firstWrongFiring 23 = .ok (.getfield 29, 3) := by decide +kernel
theorem dX6_firstWrongFiring_26 : decode cX6_firstWrongFiring 26 = .ok (.iload_n 1, 1) := by decide +kernel
theorem dX6_firstWrongFiring_27 : decode cX6_firstWrongFiring 27 = .ok (.iconst 1, 1) := by decide +kernel
theorem dX6_firstWrongFiring_28 : decode cX6_firstWrongFiring 28 = .ok (.invokevirtual 202, 3) := by decide +kernel
theorem dX6_firstWrongFiring_31 : decode cX6_firstWrongFiring 31 = .ok (.aload_n 0, 1) := by decide +kernel
theorem dX6_firstWrongFiring_32 : decode cX6_firstWrongFiring 32 = .ok (.getfield 29, 3) := by decide +kernel
theorem dX6_firstWrongFiring_35 : decode cX6_firstWrongFiring 35 = .ok (.iload_n 1, 1) := by decide +kernel
theorem dX6_firstWrongFiring_36 : decode cX6_firstWrongFiring 36 = .ok (.iconst 2, 1) := by decide +kernel
theorem dX6_firstWrongFiring_37 : decode cX6_firstWrongFiring 37 = .ok (.invokevirtual 202, 3) := by decide +kernel
theorem dX6_firstWrongFiring_40 : decode cX6_firstWrongFiring 40 = .ok (.invokestatic 91, 3) := by decide +kernel
theorem dX6_firstWrongFiring_43 : decode cX6_firstWrongFiring 43 = .ok (.ifCond .ne 5, 3) := by decide +kernel
theorem dX6_firstWrongFiring_46 : decode cX6_firstWrongFiring 46 = .ok (.iload_n 1, 1) := by decide +kernel
theorem dX6_firstWrongFiring_47 : decode cX6_firstWrongFiring 47 = .ok (.ireturn, 1) := by decide +kernel
theorem dX6_firstWrongFiring_48 : decode cX6_firstWrongFiring 48 = .ok (.iinc 1 1, 3) := by decide +kernel
theorem dX6_firstWrongFiring_51 : decode cX6_firstWrongFiring 51 = .ok (.goto (-49), 3) := by decide +kernel
theorem dX6_firstWrongFiring_54 : decode cX6_firstWrongFiring 54 = .ok (.iconst (-1), 1) := by decide +kernel
theorem dX6_firstWrongFiring_55 : decode cX6_firstWrongFiring 55 = .ok (.ireturn, 1) := by decide +kernel
theorem dX6_undo_0 : decode cX6_undo 0 = .ok (.aload_n 0, 1) := by decide +kernel
theorem dX6_undo_1 : decode cX6_undo 1 = .ok (.getfield 22, 3) := by decide +kernel
theorem dX6_undo_4 : decode cX6_undo 4 = .ok (.invokevirtual 205, 3) := by decide +kernel
theorem dX6_undo_7 : decode cX6_undo 7 = .ok (.ifCond .le 7, 3) := by decide +kernel
theorem dX6_undo_10 : decode cX6_undo 10 = .ok (.iconst 1, 1) := by decide +kernel
theorem dX6_undo_11 : decode cX6_undo 11 = .ok (.goto 4, 3) := by decide +kernel
theorem dX6_undo_14 : decode cX6_undo 14 = .ok (.iconst 0, 1) := by decide +kernel
theorem dX6_undo_15 : decode cX6_undo 15 = .ok (.invokestatic 184, 3) := by decide +kernel
theorem dX6_undo_18 : decode cX6_undo 18 = .ok (.aload_n 0, 1) := by decide +kernel
theorem dX6_undo_19 : decode cX6_undo 19 = .ok (.getfield 22, 3) := by decide +kernel
theorem dX6_undo_22 : decode cX6_undo 22 = .ok (.aload_n 0, 1) := by decide +kernel
theorem dX6_undo_23 : decode cX6_undo 23 = .ok (.getfield 12, 3) := by decide +kernel
theorem dX6_undo_26 : decode cX6_undo 26 = .ok (.invokevirtual 206, 3) := by decide +kernel
theorem dX6_undo_29 : decode cX6_undo 29 = .ok (.aload_n 0, 1) := by decide +kernel
theorem dX6_undo_30 : decode cX6_undo 30 = .ok (.getfield 22, 3) := by decide +kernel
theorem dX6_undo_33 : decode cX6_undo 33 = .ok (.invokevirtual 205, 3) := by decide +kernel
theorem dX6_undo_36 : decode cX6_undo 36 = .ok (.ireturn, 1) := by decide +kernel
theorem dX6_digest_0 : decode cX6_digest 0 = .ok (.ldc2_w 209, 3) := by decide +kernel
theorem dX6_digest_3 : decode cX6_digest 3 = .ok (.lstore_n 1, 1) := by decide +kernel
theorem dX6_digest_4 : decode cX6_digest 4 = .ok (.lload_n 1, 1) := by decide +kernel
theorem dX6_digest_5 : decode cX6_digest 5 = .ok (.aload_n 0, 1) := by decide +kernel
theorem dX6_digest_6 : decode cX6_digest 6 = .ok (.getfield 29, 3) := by decide +kernel
theorem dX6_digest_9 : decode cX6_digest 9 = .ok (.invokevirtual 183, 3) := by decide +kernel
theorem dX6_digest_12 : decode cX6_digest 12 = .ok (.i2l, 1) := by decide +kernel
theorem dX6_digest_13 : decode cX6_digest 13 = .ok (.invokestatic 211, 3) := by decide +kernel
theorem dX6_digest_16 : decode cX6_digest 16 = .ok (.lstore_n 1, 1) := by decide +kernel
theorem dX6_digest_17 : decode cX6_digest 17 = .ok (.iconst 0, 1) := by decide +kernel
theorem dX6_digest_18 : decode cX6_digest 18 = .ok (.istore_n 3, 1) := by decide +kernel
theorem dX6_digest_19 : decode cX6_digest 19 = .ok (.iload_n 3, 1) := by decide +kernel
theorem dX6_digest_20 : decode cX6_digest 20 = .ok (.bipush 8, 2) := by decide +kernel
theorem dX6_digest_22 : decode cX6_digest 22 = .ok (.if_icmp .gt 23, 3) := by decide +kernel
theorem dX6_digest_25 : decode cX6_digest 25 = .ok (.lload_n 1, 1) := by decide +kernel
theorem dX6_digest_26 : decode cX6_digest 26 = .ok (.aload_n 0, 1) := by decide +kernel
theorem dX6_digest_27 : decode cX6_digest 27 = .ok (.getfield 12, 3) := by decide +kernel
theorem dX6_digest_30 : decode cX6_digest 30 = .ok (.iload_n 3, 1) := by decide +kernel
theorem dX6_digest_31 : decode cX6_digest 31 = .ok (.invokevirtual 71, 3) := by decide +kernel
theorem dX6_digest_34 : decode cX6_digest 34 = .ok (.i2l, 1) := by decide +kernel
theorem dX6_digest_35 : decode cX6_digest 35 = .ok (.invokestatic 211, 3) := by decide +kernel
theorem dX6_digest_38 : decode cX6_digest 38 = .ok (.lstore_n 1, 1) := by decide +kernel
theorem dX6_digest_39 : decode cX6_digest 39 = .ok (.iinc 3 1, 3) := by decide +kernel
theorem dX6_digest_42 : decode cX6_digest 42 = .ok (.goto (-23), 3) := by decide +kernel
theorem dX6_digest_45 : decode cX6_digest 45 = .ok (.lload_n 1, 1) := by decide +kernel
theorem dX6_digest_46 : decode cX6_digest 46 = .ok (.aload_n 0, 1) := by decide +kernel
theorem dX6_digest_47 : decode cX6_digest 47 = .ok (.getfield 12, 3) := by decide +kernel
theorem dX6_digest_50 : decode cX6_digest 50 = .ok (.getfield 41, 3) := by decide +kernel
theorem dX6_digest_53 : decode cX6_digest 53 = .ok (.i2l, 1) := by decide +kernel
theorem dX6_digest_54 : decode cX6_digest 54 = .ok (.invokestatic 211, 3) := by decide +kernel
theorem dX6_digest_57 : decode cX6_digest 57 = .ok (.lstore_n 1, 1) := by decide +kernel
theorem dX6_digest_58 : decode cX6_digest 58 = .ok (.lload_n 1, 1) := by decide +kernel
theorem dX6_digest_59 : decode cX6_digest 59 = .ok (.aload_n 0, 1) := by decide +kernel
theorem dX6_digest_60 : decode cX6_digest 60 = .ok (.getfield 12, 3) := by decide +kernel
theorem dX6_digest_63 : decode cX6_digest 63 = .ok (.getfield 104, 3) := by decide +kernel
theorem dX6_digest_66 : decode cX6_digest 66 = .ok (.i2l, 1) := by decide +kernel
theorem dX6_digest_67 : decode cX6_digest 67 = .ok (.invokestatic 211, 3) := by decide +kernel
theorem dX6_digest_70 : decode cX6_digest 70 = .ok (.lstore_n 1, 1) := by decide +kernel
theorem dX6_digest_71 : decode cX6_digest 71 = .ok (.lload_n 1, 1) := by decide +kernel
theorem dX6_digest_72 : decode cX6_digest 72 = .ok (.aload_n 0, 1) := by decide +kernel
theorem dX6_digest_73 : decode cX6_digest 73 = .ok (.getfield 12, 3) := by decide +kernel
theorem dX6_digest_76 : decode cX6_digest 76 = .ok (.getfield 88, 3) := by decide +kernel
theorem dX6_digest_79 : decode cX6_digest 79 = .ok (.i2l, 1) := by decide +kernel
theorem dX6_digest_80 : decode cX6_digest 80 = .ok (.invokestatic 211, 3) := by decide +kernel
theorem dX6_digest_83 : decode cX6_digest 83 = .ok (.lstore_n 1, 1) := by decide +kernel
theorem dX6_digest_84 : decode cX6_digest 84 = .ok (.lload_n 1, 1) := by decide +kernel
theorem dX6_digest_85 : decode cX6_digest 85 = .ok (.aload_n 0, 1) := by decide +kernel
theorem dX6_digest_86 : decode cX6_digest 86 = .ok (.getfield 12, 3) := by decide +kernel
theorem dX6_digest_89 : decode cX6_digest 89 = .ok (.getfield 83, 3) := by decide +kernel
theorem dX6_digest_92 : decode cX6_digest 92 = .ok (.ifCond .eq 7, 3) := by decide +kernel
theorem dX6_digest_95 : decode cX6_digest 95 = .ok (.lconst 1, 1) := by decide +kernel
theorem dX6_digest_96 : decode cX6_digest 96 = .ok (.goto 4, 3) := by decide +kernel
theorem dX6_digest_99 : decode cX6_digest 99 = .ok (.lconst 0, 1) := by decide +kernel
theorem dX6_digest_100 : decode cX6_digest 100 = .ok (.invokestatic 211, 3) := by decide +kernel
theorem dX6_digest_103 : decode cX6_digest 103 = .ok (.lstore_n 1, 1) := by decide +kernel
theorem dX6_digest_104 : decode cX6_digest 104 = .ok (.iconst 0, 1) := by decide +kernel
theorem dX6_digest_105 : decode cX6_digest 105 = .ok (.istore_n 3, 1) := by decide +kernel
theorem dX6_digest_106 : decode cX6_digest 106 = .ok (.iload_n 3, 1) := by decide +kernel
theorem dX6_digest_107 : decode cX6_digest 107 = .ok (.iconst 4, 1) := by decide +kernel
theorem dX6_digest_108 : decode cX6_digest 108 = .ok (.if_icmp .gt 23, 3) := by decide +kernel
theorem dX6_digest_111 : decode cX6_digest 111 = .ok (.lload_n 1, 1) := by decide +kernel
theorem dX6_digest_112 : decode cX6_digest 112 = .ok (.aload_n 0, 1) := by decide +kernel
theorem dX6_digest_113 : decode cX6_digest 113 = .ok (.getfield 12, 3) := by decide +kernel
theorem dX6_digest_116 : decode cX6_digest 116 = .ok (.iload_n 3, 1) := by decide +kernel
theorem dX6_digest_117 : decode cX6_digest 117 = .ok (.invokevirtual 129, 3) := by decide +kernel
theorem dX6_digest_120 : decode cX6_digest 120 = .ok (.i2l, 1) := by decide +kernel
theorem dX6_digest_121 : decode cX6_digest 121 = .ok (.invokestatic 211, 3) := by decide +kernel
theorem dX6_digest_124 : decode cX6_digest 124 = .ok (.lstore_n 1, 1) := by decide +kernel
theorem dX6_digest_125 : decode cX6_digest 125 = .ok (.iinc 3 1, 3) := by decide +kernel
theorem dX6_digest_128 : decode cX6_digest 128 = .ok (.goto (-22), 3) := by decide +kernel
theorem dX6_digest_131 : decode cX6_digest 131 = .ok (.iconst 0, 1) := by decide +kernel
theorem dX6_digest_132 : decode cX6_digest 132 = .ok (.istore_n 3, 1) := by decide +kernel
theorem dX6_digest_133 : decode cX6_digest 133 = .ok (.iload_n 3, 1) := by decide +kernel
theorem dX6_digest_134 : decode cX6_digest 134 = .ok (.aload_n 0, 1) := by decide +kernel
theorem dX6_digest_135 : decode cX6_digest 135 = .ok (.getfield 12, 3) := by decide +kernel
theorem dX6_digest_138 : decode cX6_digest 138 = .ok (.getfield 176, 3) := by decide +kernel
theorem dX6_digest_141 : decode cX6_digest 141 = .ok (.if_icmp .ge 40, 3) := by decide +kernel
theorem dX6_digest_144 : decode cX6_digest 144 = .ok (.iconst 0, 1) := by decide +kernel
theorem dX6_digest_145 : decode cX6_digest 145 = .ok (.istore 4, 2) := by decide +kernel
theorem dX6_digest_147 : decode cX6_digest 147 = .ok (.iload 4, 2) := by decide +kernel
theorem dX6_digest_149 : decode cX6_digest 149 = .ok (.iconst 4, 1) := by decide +kernel
theorem dX6_digest_150 : decode cX6_digest 150 = .ok (.if_icmp .gt 25, 3) := by decide +kernel
theorem dX6_digest_153 : decode cX6_digest 153 = .ok (.lload_n 1, 1) := by decide +kernel
theorem dX6_digest_154 : decode cX6_digest 154 = .ok (.aload_n 0, 1) := by decide +kernel
theorem dX6_digest_155 : decode cX6_digest 155 = .ok (.getfield 12, 3) := by decide +kernel
theorem dX6_digest_158 : decode cX6_digest 158 = .ok (.iload_n 3, 1) := by decide +kernel
theorem dX6_digest_159 : decode cX6_digest 159 = .ok (.iload 4, 2) := by decide +kernel
theorem dX6_digest_161 : decode cX6_digest 161 = .ok (.invokevirtual 111, 3) := by decide +kernel
theorem dX6_digest_164 : decode cX6_digest 164 = .ok (.i2l, 1) := by decide +kernel
theorem dX6_digest_165 : decode cX6_digest 165 = .ok (.invokestatic 211, 3) := by decide +kernel
theorem dX6_digest_168 : decode cX6_digest 168 = .ok (.lstore_n 1, 1) := by decide +kernel
theorem dX6_digest_169 : decode cX6_digest 169 = .ok (.iinc 4 1, 3) := by decide +kernel
theorem dX6_digest_172 : decode cX6_digest 172 = .ok (.goto (-25), 3) := by decide +kernel
theorem dX6_digest_175 : decode cX6_digest 175 = .ok (.iinc 3 1, 3) := by decide +kernel
theorem dX6_digest_178 : decode cX6_digest 178 = .ok (.goto (-45), 3) := by decide +kernel
theorem dX6_digest_181 : decode cX6_digest 181 = .ok (.iconst 0, 1) := by decide +kernel
theorem dX6_digest_182 : decode cX6_digest 182 = .ok (.istore_n 3, 1) := by decide +kernel
theorem dX6_digest_183 : decode cX6_digest 183 = .ok (.iload_n 3, 1) := by decide +kernel
theorem dX6_digest_184 : decode cX6_digest 184 = .ok (.bipush 24, 2) := by decide +kernel
theorem dX6_digest_186 : decode cX6_digest 186 = .ok (.if_icmp .ge 26, 3) := by decide +kernel
theorem dX6_digest_189 : decode cX6_digest 189 = .ok (.lload_n 1, 1) := by decide +kernel
theorem dX6_digest_190 : decode cX6_digest 190 = .ok (.aload_n 0, 1) := by decide +kernel
theorem dX6_digest_191 : decode cX6_digest 191 = .ok (.getfield 12, 3) := by decide +kernel
theorem dX6_digest_194 : decode cX6_digest 194 = .ok (.getfield 80, 3) := by decide +kernel
theorem dX6_digest_197 : decode cX6_digest 197 = .ok (.iload_n 3, 1) := by decide +kernel
theorem dX6_digest_198 : decode cX6_digest 198 = .ok (.invokevirtual 61, 3) := by decide +kernel
theorem dX6_digest_201 : decode cX6_digest 201 = .ok (.i2l, 1) := by decide +kernel
theorem dX6_digest_202 : decode cX6_digest 202 = .ok (.invokestatic 211, 3) := by decide +kernel
theorem dX6_digest_205 : decode cX6_digest 205 = .ok (.lstore_n 1, 1) := by decide +kernel
theorem dX6_digest_206 : decode cX6_digest 206 = .ok (.iinc 3 1, 3) := by decide +kernel
theorem dX6_digest_209 : decode cX6_digest 209 = .ok (.goto (-26), 3) := by decide +kernel
theorem dX6_digest_212 : decode cX6_digest 212 = .ok (.lload_n 1, 1) := by decide +kernel
theorem dX6_digest_213 : decode cX6_digest 213 = .ok (.aload_n 0, 1) := by decide +kernel
theorem dX6_digest_214 : decode cX6_digest 214 = .ok (.getfield 12, 3) := by decide +kernel
theorem dX6_digest_217 : decode cX6_digest 217 = .ok (.getfield 158, 3) := by decide +kernel
theorem dX6_digest_220 : decode cX6_digest 220 = .ok (.invokevirtual 162, 3) := by decide +kernel
theorem dX6_digest_223 : decode cX6_digest 223 = .ok (.i2l, 1) := by decide +kernel
theorem dX6_digest_224 : decode cX6_digest 224 = .ok (.invokestatic 211, 3) := by decide +kernel
theorem dX6_digest_227 : decode cX6_digest 227 = .ok (.lstore_n 1, 1) := by decide +kernel
theorem dX6_digest_228 : decode cX6_digest 228 = .ok (.iconst 0, 1) := by decide +kernel
theorem dX6_digest_229 : decode cX6_digest 229 = .ok (.istore_n 3, 1) := by decide +kernel
theorem dX6_digest_230 : decode cX6_digest 230 = .ok (.iload_n 3, 1) := by decide +kernel
theorem dX6_digest_231 : decode cX6_digest 231 = .ok (.aload_n 0, 1) := by decide +kernel
theorem dX6_digest_232 : decode cX6_digest 232 = .ok (.getfield 12, 3) := by decide +kernel
theorem dX6_digest_235 : decode cX6_digest 235 = .ok (.getfield 158, 3) := by decide +kernel
theorem dX6_digest_238 : decode cX6_digest 238 = .ok (.invokevirtual 162, 3) := by decide +kernel
theorem dX6_digest_241 : decode cX6_digest 241 = .ok (.if_icmp .ge 43, 3) := by decide +kernel
theorem dX6_digest_244 : decode cX6_digest 244 = .ok (.iconst 0, 1) := by decide +kernel
theorem dX6_digest_245 : decode cX6_digest 245 = .ok (.istore 4, 2) := by decide +kernel
theorem dX6_digest_247 : decode cX6_digest 247 = .ok (.iload 4, 2) := by decide +kernel
theorem dX6_digest_249 : decode cX6_digest 249 = .ok (.iconst 2, 1) := by decide +kernel
theorem dX6_digest_250 : decode cX6_digest 250 = .ok (.if_icmp .gt 28, 3) := by decide +kernel
theorem dX6_digest_253 : decode cX6_digest 253 = .ok (.lload_n 1, 1) := by decide +kernel
theorem dX6_digest_254 : decode cX6_digest 254 = .ok (.aload_n 0, 1) := by decide +kernel
theorem dX6_digest_255 : decode cX6_digest 255 = .ok (.getfield 12, 3) := by decide +kernel
theorem dX6_digest_258 : decode cX6_digest 258 = .ok (.getfield 158, 3) := by decide +kernel
theorem dX6_digest_261 : decode cX6_digest 261 = .ok (.iload_n 3, 1) := by decide +kernel
theorem dX6_digest_262 : decode cX6_digest 262 = .ok (.iload 4, 2) := by decide +kernel
theorem dX6_digest_264 : decode cX6_digest 264 = .ok (.invokevirtual 167, 3) := by decide +kernel
theorem dX6_digest_267 : decode cX6_digest 267 = .ok (.i2l, 1) := by decide +kernel
theorem dX6_digest_268 : decode cX6_digest 268 = .ok (.invokestatic 211, 3) := by decide +kernel
theorem dX6_digest_271 : decode cX6_digest 271 = .ok (.lstore_n 1, 1) := by decide +kernel
theorem dX6_digest_272 : decode cX6_digest 272 = .ok (.iinc 4 1, 3) := by decide +kernel
theorem dX6_digest_275 : decode cX6_digest 275 = .ok (.goto (-28), 3) := by decide +kernel
theorem dX6_digest_278 : decode cX6_digest 278 = .ok (.iinc 3 1, 3) := by decide +kernel
theorem dX6_digest_281 : decode cX6_digest 281 = .ok (.goto (-51), 3) := by decide +kernel
theorem dX6_digest_284 : decode cX6_digest 284 = .ok (.lload_n 1, 1) := by decide +kernel
theorem dX6_digest_285 : decode cX6_digest 285 = .ok (.aload_n 0, 1) := by decide +kernel
theorem dX6_digest_286 : decode cX6_digest 286 = .ok (.getfield 22, 3) := by decide +kernel
theorem dX6_digest_289 : decode cX6_digest 289 = .ok (.invokevirtual 205, 3) := by decide +kernel
theorem dX6_digest_292 : decode cX6_digest 292 = .ok (.i2l, 1) := by decide +kernel
theorem dX6_digest_293 : decode cX6_digest 293 = .ok (.invokestatic 211, 3) := by decide +kernel
theorem dX6_digest_296 : decode cX6_digest 296 = .ok (.lreturn, 1) := by decide +kernel
theorem dX6_mix_0 : decode cX6_mix 0 = .ok (.ldc2_w 215, 3) := by decide +kernel
theorem dX6_mix_3 : decode cX6_mix 3 = .ok (.lload_n 0, 1) := by decide +kernel
theorem dX6_mix_4 : decode cX6_mix 4 = .ok (.lmul, 1) := by decide +kernel
theorem dX6_mix_5 : decode cX6_mix 5 = .ok (.lload_n 2, 1) := by decide +kernel
theorem dX6_mix_6 : decode cX6_mix 6 = .ok (.ladd, 1) := by decide +kernel
theorem dX6_mix_7 : decode cX6_mix 7 = .ok (.lreturn, 1) := by decide +kernel
theorem dX6_bitsOfShare_0 : decode cX6_bitsOfShare 0 = .ok (.fload_n 0, 1) := by decide +kernel
theorem dX6_bitsOfShare_1 : decode cX6_bitsOfShare 1 = .ok (.fconst 0, 1) := by decide +kernel
theorem dX6_bitsOfShare_2 : decode cX6_bitsOfShare 2 = .ok (.fcmp .l, 1) := by decide +kernel
theorem dX6_bitsOfShare_3 : decode cX6_bitsOfShare 3 = .ok (.ifCond .gt 5, 3) := by decide +kernel
theorem dX6_bitsOfShare_6 : decode cX6_bitsOfShare 6 = .ok (.iconst 0, 1) := by decide +kernel
theorem dX6_bitsOfShare_7 : decode cX6_bitsOfShare 7 = .ok (.ireturn, 1) := by decide +kernel
theorem dX6_bitsOfShare_8 : decode cX6_bitsOfShare 8 = .ok (.fload_n 0, 1) := by decide +kernel
theorem dX6_bitsOfShare_9 : decode cX6_bitsOfShare 9 = .ok (.fstore_n 1, 1) := by decide +kernel
theorem dX6_bitsOfShare_10 : decode cX6_bitsOfShare 10 = .ok (.bipush 127, 2) := by decide +kernel
theorem dX6_bitsOfShare_12 : decode cX6_bitsOfShare 12 = .ok (.istore_n 2, 1) := by decide +kernel
theorem dX6_bitsOfShare_13 : decode cX6_bitsOfShare 13 = .ok (.fload_n 1, 1) := by decide +kernel
theorem dX6_bitsOfShare_14 : decode cX6_bitsOfShare 14 = .ok (.fconst 1, 1) := by decide +kernel
theorem dX6_bitsOfShare_15 : decode cX6_bitsOfShare 15 = .ok (.fcmp .g, 1) := by decide +kernel
theorem dX6_bitsOfShare_16 : decode cX6_bitsOfShare 16 = .ok (.ifCond .ge 18, 3) := by decide +kernel
theorem dX6_bitsOfShare_19 : decode cX6_bitsOfShare 19 = .ok (.iload_n 2, 1) := by decide +kernel
theorem dX6_bitsOfShare_20 : decode cX6_bitsOfShare 20 = .ok (.iconst 1, 1) := by decide +kernel
theorem dX6_bitsOfShare_21 : decode cX6_bitsOfShare 21 = .ok (.if_icmp .le 13, 3) := by decide +kernel
theorem dX6_bitsOfShare_24 : decode cX6_bitsOfShare 24 = .ok (.fload_n 1, 1) := by decide +kernel
theorem dX6_bitsOfShare_25 : decode cX6_bitsOfShare 25 = .ok (.fconst 2, 1) := by decide +kernel
theorem dX6_bitsOfShare_26 : decode cX6_bitsOfShare 26 = .ok (.fmul, 1) := by decide +kernel
theorem dX6_bitsOfShare_27 : decode cX6_bitsOfShare 27 = .ok (.fstore_n 1, 1) := by decide +kernel
theorem dX6_bitsOfShare_28 : decode cX6_bitsOfShare 28 = .ok (.iinc 2 (-1), 3) := by decide +kernel
theorem dX6_bitsOfShare_31 : decode cX6_bitsOfShare 31 = .ok (.goto (-18), 3) := by decide +kernel
theorem dX6_bitsOfShare_34 : decode cX6_bitsOfShare 34 = .ok (.iload_n 2, 1) := by decide +kernel
theorem dX6_bitsOfShare_35 : decode cX6_bitsOfShare 35 = .ok (.ldc 217, 2) := by decide +kernel
theorem dX6_bitsOfShare_37 : decode cX6_bitsOfShare 37 = .ok (.imul, 1) := by decide +kernel
theorem dX6_bitsOfShare_38 : decode cX6_bitsOfShare 38 = .ok (.fload_n 1, 1) := by decide +kernel
theorem dX6_bitsOfShare_39 : decode cX6_bitsOfShare 39 = .ok (.fconst 1, 1) := by decide +kernel
theorem dX6_bitsOfShare_40 : decode cX6_bitsOfShare 40 = .ok (.fsub, 1) := by decide +kernel
theorem dX6_bitsOfShare_41 : decode cX6_bitsOfShare 41 = .ok (.ldc 218, 2) := by decide +kernel
theorem dX6_bitsOfShare_43 : decode cX6_bitsOfShare 43 = .ok (.fmul, 1) := by decide +kernel
theorem dX6_bitsOfShare_44 : decode cX6_bitsOfShare 44 = .ok (.f2i, 1) := by decide +kernel
theorem dX6_bitsOfShare_45 : decode cX6_bitsOfShare 45 = .ok (.iadd, 1) := by decide +kernel
theorem dX6_bitsOfShare_46 : decode cX6_bitsOfShare 46 = .ok (.ireturn, 1) := by decide +kernel
theorem dX6_within_0 : decode cX6_within 0 = .ok (.iload_n 0, 1) := by decide +kernel
theorem dX6_within_1 : decode cX6_within 1 = .ok (.iload_n 1, 1) := by decide +kernel
theorem dX6_within_2 : decode cX6_within 2 = .ok (.if_icmp .lt 12, 3) := by decide +kernel
theorem dX6_within_5 : decode cX6_within 5 = .ok (.iload_n 0, 1) := by decide +kernel
theorem dX6_within_6 : decode cX6_within 6 = .ok (.iload_n 2, 1) := by decide +kernel
theorem dX6_within_7 : decode cX6_within 7 = .ok (.if_icmp .gt 7, 3) := by decide +kernel
theorem dX6_within_10 : decode cX6_within 10 = .ok (.iconst 1, 1) := by decide +kernel
theorem dX6_within_11 : decode cX6_within 11 = .ok (.goto 4, 3) := by decide +kernel
theorem dX6_within_14 : decode cX6_within 14 = .ok (.iconst 0, 1) := by decide +kernel
theorem dX6_within_15 : decode cX6_within 15 = .ok (.ireturn, 1) := by decide +kernel
theorem dX6_isSetting_0 : decode cX6_isSetting 0 = .ok (.iload_n 0, 1) := by decide +kernel
theorem dX6_isSetting_1 : decode cX6_isSetting 1 = .ok (.ifCond .lt 40, 3) := by decide +kernel
theorem dX6_isSetting_4 : decode cX6_isSetting 4 = .ok (.iload_n 0, 1) := by decide +kernel
theorem dX6_isSetting_5 : decode cX6_isSetting 5 = .ok (.getstatic 219, 3) := by decide +kernel
theorem dX6_isSetting_8 : decode cX6_isSetting 8 = .ok (.arraylength, 1) := by decide +kernel
theorem dX6_isSetting_9 : decode cX6_isSetting 9 = .ok (.if_icmp .ge 32, 3) := by decide +kernel
theorem dX6_isSetting_12 : decode cX6_isSetting 12 = .ok (.iload_n 0, 1) := by decide +kernel
theorem dX6_isSetting_13 : decode cX6_isSetting 13 = .ok (.getstatic 223, 3) := by decide +kernel
theorem dX6_isSetting_16 : decode cX6_isSetting 16 = .ok (.arraylength, 1) := by decide +kernel
theorem dX6_isSetting_17 : decode cX6_isSetting 17 = .ok (.if_icmp .ge 24, 3) := by decide +kernel
theorem dX6_isSetting_20 : decode cX6_isSetting 20 = .ok (.iload_n 1, 1) := by decide +kernel
theorem dX6_isSetting_21 : decode cX6_isSetting 21 = .ok (.getstatic 219, 3) := by decide +kernel
theorem dX6_isSetting_24 : decode cX6_isSetting 24 = .ok (.iload_n 0, 1) := by decide +kernel
theorem dX6_isSetting_25 : decode cX6_isSetting 25 = .ok (.iaload, 1) := by decide +kernel
theorem dX6_isSetting_26 : decode cX6_isSetting 26 = .ok (.getstatic 223, 3) := by decide +kernel
theorem dX6_isSetting_29 : decode cX6_isSetting 29 = .ok (.iload_n 0, 1) := by decide +kernel
theorem dX6_isSetting_30 : decode cX6_isSetting 30 = .ok (.iaload, 1) := by decide +kernel
theorem dX6_isSetting_31 : decode cX6_isSetting 31 = .ok (.invokestatic 33, 3) := by decide +kernel
theorem dX6_isSetting_34 : decode cX6_isSetting 34 = .ok (.ifCond .eq 7, 3) := by decide +kernel
theorem dX6_isSetting_37 : decode cX6_isSetting 37 = .ok (.iconst 1, 1) := by decide +kernel
theorem dX6_isSetting_38 : decode cX6_isSetting 38 = .ok (.goto 4, 3) := by decide +kernel
theorem dX6_isSetting_41 : decode cX6_isSetting 41 = .ok (.iconst 0, 1) := by decide +kernel
theorem dX6_isSetting_42 : decode cX6_isSetting 42 = .ok (.ireturn, 1) := by decide +kernel
theorem dX6_isCell_0 : decode cX6_isCell 0 = .ok (.iload_n 0, 1) := by decide +kernel
theorem dX6_isCell_1 : decode cX6_isCell 1 = .ok (.iconst 0, 1) := by decide +kernel
theorem dX6_isCell_2 : decode cX6_isCell 2 = .ok (.iconst 5, 1) := by decide +kernel
theorem dX6_isCell_3 : decode cX6_isCell 3 = .ok (.invokestatic 33, 3) := by decide +kernel
theorem dX6_isCell_6 : decode cX6_isCell 6 = .ok (.ifCond .eq 16, 3) := by decide +kernel
theorem dX6_isCell_9 : decode cX6_isCell 9 = .ok (.iload_n 1, 1) := by decide +kernel
theorem dX6_isCell_10 : decode cX6_isCell 10 = .ok (.iconst 0, 1) := by decide +kernel
theorem dX6_isCell_11 : decode cX6_isCell 11 = .ok (.iconst 3, 1) := by decide +kernel
theorem dX6_isCell_12 : decode cX6_isCell 12 = .ok (.invokestatic 33, 3) := by decide +kernel
theorem dX6_isCell_15 : decode cX6_isCell 15 = .ok (.ifCond .eq 7, 3) := by decide +kernel
theorem dX6_isCell_18 : decode cX6_isCell 18 = .ok (.iconst 1, 1) := by decide +kernel
theorem dX6_isCell_19 : decode cX6_isCell 19 = .ok (.goto 4, 3) := by decide +kernel
theorem dX6_isCell_22 : decode cX6_isCell 22 = .ok (.iconst 0, 1) := by decide +kernel
theorem dX6_isCell_23 : decode cX6_isCell 23 = .ok (.ireturn, 1) := by decide +kernel
theorem dX6_isOperation_0 : decode cX6_isOperation 0 = .ok (.iload_n 0, 1) := by decide +kernel
theorem dX6_isOperation_1 : decode cX6_isOperation 1 = .ok (.sipush 500, 3) := by decide +kernel
theorem dX6_isOperation_4 : decode cX6_isOperation 4 = .ok (.sipush 7000, 3) := by decide +kernel
theorem dX6_isOperation_7 : decode cX6_isOperation 7 = .ok (.invokestatic 33, 3) := by decide +kernel
theorem dX6_isOperation_10 : decode cX6_isOperation 10 = .ok (.ifCond .eq 17, 3) := by decide +kernel
theorem dX6_isOperation_13 : decode cX6_isOperation 13 = .ok (.iload_n 1, 1) := by decide +kernel
theorem dX6_isOperation_14 : decode cX6_isOperation 14 = .ok (.iconst 0, 1) := by decide +kernel
theorem dX6_isOperation_15 : decode cX6_isOperation 15 = .ok (.bipush 100, 2) := by decide +kernel
theorem dX6_isOperation_17 : decode cX6_isOperation 17 = .ok (.invokestatic 33, 3) := by decide +kernel
theorem dX6_isOperation_20 : decode cX6_isOperation 20 = .ok (.ifCond .eq 7, 3) := by decide +kernel
theorem dX6_isOperation_23 : decode cX6_isOperation 23 = .ok (.iconst 1, 1) := by decide +kernel
theorem dX6_isOperation_24 : decode cX6_isOperation 24 = .ok (.goto 4, 3) := by decide +kernel
theorem dX6_isOperation_27 : decode cX6_isOperation 27 = .ok (.iconst 0, 1) := by decide +kernel
theorem dX6_isOperation_28 : decode cX6_isOperation 28 = .ok (.ireturn, 1) := by decide +kernel
theorem dX6_isFiring_0 : decode cX6_isFiring 0 = .ok (.iload_n 0, 1) := by decide +kernel
theorem dX6_isFiring_1 : decode cX6_isFiring 1 = .ok (.iload_n 1, 1) := by decide +kernel
theorem dX6_isFiring_2 : decode cX6_isFiring 2 = .ok (.invokestatic 115, 3) := by decide +kernel
theorem dX6_isFiring_5 : decode cX6_isFiring 5 = .ok (.ifCond .eq 18, 3) := by decide +kernel
theorem dX6_isFiring_8 : decode cX6_isFiring 8 = .ok (.iload_n 2, 1) := by decide +kernel
theorem dX6_isFiring_9 : decode cX6_isFiring 9 = .ok (.iconst 0, 1) := by decide +kernel
theorem dX6_isFiring_10 : decode cX6_isFiring 10 = .ok (.sipush 20000, 3) := by decide +kernel
theorem dX6_isFiring_13 : decode cX6_isFiring 13 = .ok (.invokestatic 33, 3) := by decide +kernel
theorem dX6_isFiring_16 : decode cX6_isFiring 16 = .ok (.ifCond .eq 7, 3) := by decide +kernel
theorem dX6_isFiring_19 : decode cX6_isFiring 19 = .ok (.iconst 1, 1) := by decide +kernel
theorem dX6_isFiring_20 : decode cX6_isFiring 20 = .ok (.goto 4, 3) := by decide +kernel
theorem dX6_isFiring_23 : decode cX6_isFiring 23 = .ok (.iconst 0, 1) := by decide +kernel
theorem dX6_isFiring_24 : decode cX6_isFiring 24 = .ok (.ireturn, 1) := by decide +kernel
theorem dX6_isDriving_0 : decode cX6_isDriving 0 = .ok (.iload_n 0, 1) := by decide +kernel
theorem dX6_isDriving_1 : decode cX6_isDriving 1 = .ok (.iload_n 1, 1) := by decide +kernel
theorem dX6_isDriving_2 : decode cX6_isDriving 2 = .ok (.invokestatic 115, 3) := by decide +kernel
theorem dX6_isDriving_5 : decode cX6_isDriving 5 = .ok (.ifCond .eq 18, 3) := by decide +kernel
theorem dX6_isDriving_8 : decode cX6_isDriving 8 = .ok (.iload_n 2, 1) := by decide +kernel
theorem dX6_isDriving_9 : decode cX6_isDriving 9 = .ok (.bipush 80, 2) := by decide +kernel
theorem dX6_isDriving_11 : decode cX6_isDriving 11 = .ok (.bipush 110, 2) := by decide +kernel
theorem dX6_isDriving_13 : decode cX6_isDriving 13 = .ok (.invokestatic 33, 3) := by decide +kernel
theorem dX6_isDriving_16 : decode cX6_isDriving 16 = .ok (.ifCond .eq 7, 3) := by decide +kernel
theorem dX6_isDriving_19 : decode cX6_isDriving 19 = .ok (.iconst 1, 1) := by decide +kernel
theorem dX6_isDriving_20 : decode cX6_isDriving 20 = .ok (.goto 4, 3) := by decide +kernel
theorem dX6_isDriving_23 : decode cX6_isDriving 23 = .ok (.iconst 0, 1) := by decide +kernel
theorem dX6_isDriving_24 : decode cX6_isDriving 24 = .ok (.ireturn, 1) := by decide +kernel
theorem dX6_isCylinder_0 : decode cX6_isCylinder 0 = .ok (.iload_n 1, 1) := by decide +kernel
theorem dX6_isCylinder_1 : decode cX6_isCylinder 1 = .ok (.iconst 0, 1) := by decide +kernel
theorem dX6_isCylinder_2 : decode cX6_isCylinder 2 = .ok (.aload_n 0, 1) := by decide +kernel
theorem dX6_isCylinder_3 : decode cX6_isCylinder 3 = .ok (.getfield 12, 3) := by decide +kernel
theorem dX6_isCylinder_6 : decode cX6_isCylinder 6 = .ok (.getfield 176, 3) := by decide +kernel
theorem dX6_isCylinder_9 : decode cX6_isCylinder 9 = .ok (.iconst 1, 1) := by decide +kernel
theorem dX6_isCylinder_10 : decode cX6_isCylinder 10 = .ok (.isub, 1) := by decide +kernel
theorem dX6_isCylinder_11 : decode cX6_isCylinder 11 = .ok (.invokestatic 33, 3) := by decide +kernel
theorem dX6_isCylinder_14 : decode cX6_isCylinder 14 = .ok (.ireturn, 1) := by decide +kernel
theorem dX6_demand_0 : decode cX6_demand 0 = .ok (.iload_n 0, 1) := by decide +kernel
theorem dX6_demand_1 : decode cX6_demand 1 = .ok (.ifCond .ne 13, 3) := by decide +kernel
theorem dX6_demand_4 : decode cX6_demand 4 = .ok (.new 226, 3) := by decide +kernel
theorem dX6_demand_7 : decode cX6_demand 7 = .ok (.dup, 1) := by decide +kernel
theorem dX6_demand_8 : decode cX6_demand 8 = .ok (.ldc 228, 2) := by decide +kernel
theorem dX6_demand_10 : decode cX6_demand 10 = .ok (.invokespecial 230, 3) := by decide +kernel
theorem dX6_demand_13 : decode cX6_demand 13 = .ok (.athrow, 1) := by decide +kernel
theorem dX6_demand_14 : decode cX6_demand 14 = .ok (.return_, 1) := by decide +kernel
theorem dX6_demandPlace_0 : decode cX6_demandPlace 0 = .ok (.iload_n 0, 1) := by decide +kernel
theorem dX6_demandPlace_1 : decode cX6_demandPlace 1 = .ok (.ifCond .ne 13, 3) := by decide +kernel
theorem dX6_demandPlace_4 : decode cX6_demandPlace 4 = .ok (.new 233, 3) := by decide +kernel
theorem dX6_demandPlace_7 : decode cX6_demandPlace 7 = .ok (.dup, 1) := by decide +kernel
theorem dX6_demandPlace_8 : decode cX6_demandPlace 8 = .ok (.ldc 235, 2) := by decide +kernel
theorem dX6_demandPlace_10 : decode cX6_demandPlace 10 = .ok (.invokespecial 237, 3) := by decide +kernel
theorem dX6_demandPlace_13 : decode cX6_demandPlace 13 = .ok (.athrow, 1) := by decide +kernel
theorem dX6_demandPlace_14 : decode cX6_demandPlace 14 = .ok (.return_, 1) := by decide +kernel
theorem dX6_demandState_0 : decode cX6_demandState 0 = .ok (.iload_n 0, 1) := by decide +kernel
theorem dX6_demandState_1 : decode cX6_demandState 1 = .ok (.ifCond .ne 13, 3) := by decide +kernel
theorem dX6_demandState_4 : decode cX6_demandState 4 = .ok (.new 238, 3) := by decide +kernel
theorem dX6_demandState_7 : decode cX6_demandState 7 = .ok (.dup, 1) := by decide +kernel
theorem dX6_demandState_8 : decode cX6_demandState 8 = .ok (.ldc 240, 2) := by decide +kernel
theorem dX6_demandState_10 : decode cX6_demandState 10 = .ok (.invokespecial 242, 3) := by decide +kernel
theorem dX6_demandState_13 : decode cX6_demandState 13 = .ok (.athrow, 1) := by decide +kernel
theorem dX6_demandState_14 : decode cX6_demandState 14 = .ok (.return_, 1) := by decide +kernel
theorem dX7_init_0 : decode cX7_init 0 = .ok (.aload_n 0, 1) := by decide +kernel
theorem dX7_init_1 : decode cX7_init 1 = .ok (.invokespecial 1, 3) := by decide +kernel
theorem dX7_init_4 : decode cX7_init 4 = .ok (.aload_n 0, 1) := by decide +kernel
theorem dX7_init_5 : decode cX7_init 5 = .ok (.sipush 254, 3) := by decide +kernel
theorem dX7_init_8 : decode cX7_init 8 = .ok (.newarray .int, 2) := by decide +kernel
theorem dX7_init_10 : decode cX7_init 10 = .ok (.putfield 7, 3) := by decide +kernel
theorem dX7_init_13 : decode cX7_init 13 = .ok (.aload_n 0, 1) := by decide +kernel
theorem dX7_init_14 : decode cX7_init 14 = .ok (.sipush 1016, 3) := by decide +kernel
theorem dX7_init_17 : decode cX7_init 17 = .ok (.newarray .int, 2) := by decide +kernel
theorem dX7_init_19 : decode cX7_init 19 = .ok (.putfield 13, 3) := by decide +kernel
theorem dX7_init_22 : decode cX7_init 22 = .ok (.aload_n 0, 1) := by decide +kernel
theorem dX7_init_23 : decode cX7_init 23 = .ok (.sipush 254, 3) := by decide +kernel
theorem dX7_init_26 : decode cX7_init 26 = .ok (.newarray .int, 2) := by decide +kernel
theorem dX7_init_28 : decode cX7_init 28 = .ok (.putfield 16, 3) := by decide +kernel
theorem dX7_init_31 : decode cX7_init 31 = .ok (.aload_n 0, 1) := by decide +kernel
theorem dX7_init_32 : decode cX7_init 32 = .ok (.bipush 120, 2) := by decide +kernel
theorem dX7_init_34 : decode cX7_init 34 = .ok (.newarray .int, 2) := by decide +kernel
theorem dX7_init_36 : decode cX7_init 36 = .ok (.putfield 19, 3) := by decide +kernel
theorem dX7_init_39 : decode cX7_init 39 = .ok (.aload_n 0, 1) := by decide +kernel
theorem dX7_init_40 : decode cX7_init 40 = .ok (.getfield 7, 3) := by decide +kernel
theorem dX7_init_43 : decode cX7_init 43 = .ok (.iconst 0, 1) := by decide +kernel
theorem dX7_init_44 : decode cX7_init 44 = .ok (.bipush 40, 2) := by decide +kernel
theorem dX7_init_46 : decode cX7_init 46 = .ok (.iastore, 1) := by decide +kernel
theorem dX7_init_47 : decode cX7_init 47 = .ok (.aload_n 0, 1) := by decide +kernel
theorem dX7_init_48 : decode cX7_init 48 = .ok (.getfield 7, 3) := by decide +kernel
theorem dX7_init_51 : decode cX7_init 51 = .ok (.iconst 1, 1) := by decide +kernel
theorem dX7_init_52 : decode cX7_init 52 = .ok (.bipush 10, 2) := by decide +kernel
theorem dX7_init_54 : decode cX7_init 54 = .ok (.iastore, 1) := by decide +kernel
theorem dX7_init_55 : decode cX7_init 55 = .ok (.aload_n 0, 1) := by decide +kernel
theorem dX7_init_56 : decode cX7_init 56 = .ok (.getfield 7, 3) := by decide +kernel
theorem dX7_init_59 : decode cX7_init 59 = .ok (.iconst 2, 1) := by decide +kernel
theorem dX7_init_60 : decode cX7_init 60 = .ok (.bipush 20, 2) := by decide +kernel
theorem dX7_init_62 : decode cX7_init 62 = .ok (.iastore, 1) := by decide +kernel
theorem dX7_init_63 : decode cX7_init 63 = .ok (.aload_n 0, 1) := by decide +kernel
theorem dX7_init_64 : decode cX7_init 64 = .ok (.getfield 7, 3) := by decide +kernel
theorem dX7_init_67 : decode cX7_init 67 = .ok (.iconst 3, 1) := by decide +kernel
theorem dX7_init_68 : decode cX7_init 68 = .ok (.sipush 150, 3) := by decide +kernel
theorem dX7_init_71 : decode cX7_init 71 = .ok (.iastore, 1) := by decide +kernel
theorem dX7_init_72 : decode cX7_init 72 = .ok (.aload_n 0, 1) := by decide +kernel
theorem dX7_init_73 : decode cX7_init 73 = .ok (.getfield 7, 3) := by decide +kernel
theorem dX7_init_76 : decode cX7_init 76 = .ok (.iconst 4, 1) := by decide +kernel
theorem dX7_init_77 : decode cX7_init 77 = .ok (.bipush 40, 2) := by decide +kernel
theorem dX7_init_79 : decode cX7_init 79 = .ok (.iastore, 1) := by decide +kernel
theorem dX7_init_80 : decode cX7_init 80 = .ok (.aload_n 0, 1) := by decide +kernel
theorem dX7_init_81 : decode cX7_init 81 = .ok (.getfield 7, 3) := by decide +kernel
theorem dX7_init_84 : decode cX7_init 84 = .ok (.iconst 5, 1) := by decide +kernel
theorem dX7_init_85 : decode cX7_init 85 = .ok (.bipush 30, 2) := by decide +kernel
theorem dX7_init_87 : decode cX7_init 87 = .ok (.iastore, 1) := by decide +kernel
theorem dX7_init_88 : decode cX7_init 88 = .ok (.aload_n 0, 1) := by decide +kernel
theorem dX7_init_89 : decode cX7_init 89 = .ok (.getfield 7, 3) := by decide +kernel
theorem dX7_init_92 : decode cX7_init 92 = .ok (.bipush 6, 2) := by decide +kernel
theorem dX7_init_94 : decode cX7_init 94 = .ok (.bipush 10, 2) := by decide +kernel
theorem dX7_init_96 : decode cX7_init 96 = .ok (.iastore, 1) := by decide +kernel
theorem dX7_init_97 : decode cX7_init 97 = .ok (.aload_n 0, 1) := by decide +kernel
theorem dX7_init_98 : decode cX7_init 98 = .ok (.getfield 7, 3) := by decide +kernel
theorem dX7_init_101 : decode cX7_init 101 = .ok (.bipush 7, 2) := by decide +kernel
theorem dX7_init_103 : decode cX7_init 103 = .ok (.bipush 60, 2) := by decide +kernel
theorem dX7_init_105 : decode cX7_init 105 = .ok (.iastore, 1) := by decide +kernel
theorem dX7_init_106 : decode cX7_init 106 = .ok (.aload_n 0, 1) := by decide +kernel
theorem dX7_init_107 : decode cX7_init 107 = .ok (.getfield 7, 3) := by decide +kernel
theorem dX7_init_110 : decode cX7_init 110 = .ok (.bipush 10, 2) := by decide +kernel
theorem dX7_init_112 : decode cX7_init 112 = .ok (.iconst 1, 1) := by decide +kernel
theorem dX7_init_113 : decode cX7_init 113 = .ok (.iastore, 1) := by decide +kernel
theorem dX7_init_114 : decode cX7_init 114 = .ok (.aload_n 0, 1) := by decide +kernel
theorem dX7_init_115 : decode cX7_init 115 = .ok (.iconst 4, 1) := by decide +kernel
theorem dX7_init_116 : decode cX7_init 116 = .ok (.invokevirtual 22, 3) := by decide +kernel
theorem dX7_init_119 : decode cX7_init 119 = .ok (.return_, 1) := by decide +kernel
theorem dX7_begins_0 : decode cX7_begins 0 = .ok (.aload_n 0, 1) := by decide +kernel
theorem dX7_begins_1 : decode cX7_begins 1 = .ok (.getfield 7, 3) := by decide +kernel
theorem dX7_begins_4 : decode cX7_begins 4 = .ok (.bipush 8, 2) := by decide +kernel
theorem dX7_begins_6 : decode cX7_begins 6 = .ok (.iload_n 1, 1) := by decide +kernel
theorem dX7_begins_7 : decode cX7_begins 7 = .ok (.iastore, 1) := by decide +kernel
theorem dX7_begins_8 : decode cX7_begins 8 = .ok (.aload_n 0, 1) := by decide +kernel
theorem dX7_begins_9 : decode cX7_begins 9 = .ok (.getfield 7, 3) := by decide +kernel
theorem dX7_begins_12 : decode cX7_begins 12 = .ok (.bipush 9, 2) := by decide +kernel
theorem dX7_begins_14 : decode cX7_begins 14 = .ok (.iconst 0, 1) := by decide +kernel
theorem dX7_begins_15 : decode cX7_begins 15 = .ok (.iastore, 1) := by decide +kernel
theorem dX7_begins_16 : decode cX7_begins 16 = .ok (.bipush 12, 2) := by decide +kernel
theorem dX7_begins_18 : decode cX7_begins 18 = .ok (.istore_n 2, 1) := by decide +kernel
theorem dX7_begins_19 : decode cX7_begins 19 = .ok (.iload_n 2, 1) := by decide +kernel
theorem dX7_begins_20 : decode cX7_begins 20 = .ok (.sipush 254, 3) := by decide +kernel
theorem dX7_begins_23 : decode cX7_begins 23 = .ok (.if_icmp .ge 16, 3) := by decide +kernel
theorem dX7_begins_26 : decode cX7_begins 26 = .ok (.aload_n 0, 1) := by decide +kernel
theorem dX7_begins_27 : decode cX7_begins 27 = .ok (.getfield 7, 3) := by decide +kernel
theorem dX7_begins_30 : decode cX7_begins 30 = .ok (.iload_n 2, 1) := by decide +kernel
theorem dX7_begins_31 : decode cX7_begins 31 = .ok (.iconst 0, 1) := by decide +kernel
theorem dX7_begins_32 : decode cX7_begins 32 = .ok (.iastore, 1) := by decide +kernel
theorem dX7_begins_33 : decode cX7_begins 33 = .ok (.iinc 2 1, 3) := by decide +kernel
theorem dX7_begins_36 : decode cX7_begins 36 = .ok (.goto (-17), 3) := by decide +kernel
theorem dX7_begins_39 : decode cX7_begins 39 = .ok (.aload_n 0, 1) := by decide +kernel
theorem dX7_begins_40 : decode cX7_begins 40 = .ok (.getfield 7, 3) := by decide +kernel
theorem dX7_begins_43 : decode cX7_begins 43 = .ok (.bipush 16, 2) := by decide +kernel
theorem dX7_begins_45 : decode cX7_begins 45 = .ok (.iconst (-1), 1) := by decide +kernel
theorem dX7_begins_46 : decode cX7_begins 46 = .ok (.iastore, 1) := by decide +kernel
theorem dX7_begins_47 : decode cX7_begins 47 = .ok (.iconst 0, 1) := by decide +kernel
theorem dX7_begins_48 : decode cX7_begins 48 = .ok (.istore_n 2, 1) := by decide +kernel
theorem dX7_begins_49 : decode cX7_begins 49 = .ok (.iload_n 2, 1) := by decide +kernel
theorem dX7_begins_50 : decode cX7_begins 50 = .ok (.bipush 8, 2) := by decide +kernel
theorem dX7_begins_52 : decode cX7_begins 52 = .ok (.if_icmp .ge 20, 3) := by decide +kernel
theorem dX7_begins_55 : decode cX7_begins 55 = .ok (.aload_n 0, 1) := by decide +kernel
theorem dX7_begins_56 : decode cX7_begins 56 = .ok (.getfield 7, 3) := by decide +kernel
theorem dX7_begins_59 : decode cX7_begins 59 = .ok (.bipush 25, 2) := by decide +kernel
theorem dX7_begins_61 : decode cX7_begins 61 = .ok (.iload_n 2, 1) := by decide +kernel
theorem dX7_begins_62 : decode cX7_begins 62 = .ok (.iadd, 1) := by decide +kernel
theorem dX7_begins_63 : decode cX7_begins 63 = .ok (.ldc 26, 2) := by decide +kernel
theorem dX7_begins_65 : decode cX7_begins 65 = .ok (.iastore, 1) := by decide +kernel
theorem dX7_begins_66 : decode cX7_begins 66 = .ok (.iinc 2 1, 3) := by decide +kernel
theorem dX7_begins_69 : decode cX7_begins 69 = .ok (.goto (-20), 3) := by decide +kernel
theorem dX7_begins_72 : decode cX7_begins 72 = .ok (.return_, 1) := by decide +kernel
theorem dX7_thrown_0 : decode cX7_thrown 0 = .ok (.aload_n 0, 1) := by decide +kernel
theorem dX7_thrown_1 : decode cX7_thrown 1 = .ok (.getfield 27, 3) := by decide +kernel
theorem dX7_thrown_4 : decode cX7_thrown 4 = .ok (.ireturn, 1) := by decide +kernel
theorem dX7_refused_0 : decode cX7_refused 0 = .ok (.aload_n 0, 1) := by decide +kernel
theorem dX7_refused_1 : decode cX7_refused 1 = .ok (.iload_n 1, 1) := by decide +kernel
theorem dX7_refused_2 : decode cX7_refused 2 = .ok (.putfield 27, 3) := by decide +kernel
theorem dX7_refused_5 : decode cX7_refused 5 = .ok (.iload_n 1, 1) := by decide +kernel
theorem dX7_refused_6 : decode cX7_refused 6 = .ok (.ifCond .le 7, 3) := by decide +kernel
theorem dX7_refused_9 : decode cX7_refused 9 = .ok (.iconst 1, 1) := by decide +kernel
theorem dX7_refused_10 : decode cX7_refused 10 = .ok (.goto 4, 3) := by decide +kernel
theorem dX7_refused_13 : decode cX7_refused 13 = .ok (.iconst 0, 1) := by decide +kernel
theorem dX7_refused_14 : decode cX7_refused 14 = .ok (.ireturn, 1) := by decide +kernel
theorem dX7_within_0 : decode cX7_within 0 = .ok (.iload_n 0, 1) := by decide +kernel
theorem dX7_within_1 : decode cX7_within 1 = .ok (.iload_n 1, 1) := by decide +kernel
theorem dX7_within_2 : decode cX7_within 2 = .ok (.if_icmp .lt 12, 3) := by decide +kernel
theorem dX7_within_5 : decode cX7_within 5 = .ok (.iload_n 0, 1) := by decide +kernel
theorem dX7_within_6 : decode cX7_within 6 = .ok (.iload_n 2, 1) := by decide +kernel
theorem dX7_within_7 : decode cX7_within 7 = .ok (.if_icmp .gt 7, 3) := by decide +kernel
theorem dX7_within_10 : decode cX7_within 10 = .ok (.iconst 1, 1) := by decide +kernel
theorem dX7_within_11 : decode cX7_within 11 = .ok (.goto 4, 3) := by decide +kernel
theorem dX7_within_14 : decode cX7_within 14 = .ok (.iconst 0, 1) := by decide +kernel
theorem dX7_within_15 : decode cX7_within 15 = .ok (.ireturn, 1) := by decide +kernel
theorem dX7_floor_0 : decode cX7_floor 0 = .ok (.iload_n 0, 1) := by decide +kernel
theorem dX7_floor_1 : decode cX7_floor 1 = .ok (.iload_n 1, 1) := by decide +kernel
theorem dX7_floor_2 : decode cX7_floor 2 = .ok (.idiv, 1) := by decide +kernel
theorem dX7_floor_3 : decode cX7_floor 3 = .ok (.istore_n 2, 1) := by decide +kernel
theorem dX7_floor_4 : decode cX7_floor 4 = .ok (.iload_n 0, 1) := by decide +kernel
theorem dX7_floor_5 : decode cX7_floor 5 = .ok (.iload_n 1, 1) := by decide +kernel
theorem dX7_floor_6 : decode cX7_floor 6 = .ok (.irem, 1) := by decide +kernel
theorem dX7_floor_7 : decode cX7_floor 7 = .ok (.ifCond .ge 9, 3) := by decide +kernel
theorem dX7_floor_10 : decode cX7_floor 10 = .ok (.iload_n 2, 1) := by decide +kernel
theorem dX7_floor_11 : decode cX7_floor 11 = .ok (.iconst 1, 1) := by decide +kernel
theorem dX7_floor_12 : decode cX7_floor 12 = .ok (.isub, 1) := by decide +kernel
theorem dX7_floor_13 : decode cX7_floor 13 = .ok (.goto 4, 3) := by decide +kernel
theorem dX7_floor_16 : decode cX7_floor 16 = .ok (.iload_n 2, 1) := by decide +kernel
theorem dX7_floor_17 : decode cX7_floor 17 = .ok (.ireturn, 1) := by decide +kernel
theorem dX7_lesser_0 : decode cX7_lesser 0 = .ok (.iload_n 0, 1) := by decide +kernel
theorem dX7_lesser_1 : decode cX7_lesser 1 = .ok (.iload_n 1, 1) := by decide +kernel
theorem dX7_lesser_2 : decode cX7_lesser 2 = .ok (.if_icmp .ge 7, 3) := by decide +kernel
theorem dX7_lesser_5 : decode cX7_lesser 5 = .ok (.iload_n 0, 1) := by decide +kernel
theorem dX7_lesser_6 : decode cX7_lesser 6 = .ok (.goto 4, 3) := by decide +kernel
theorem dX7_lesser_9 : decode cX7_lesser 9 = .ok (.iload_n 1, 1) := by decide +kernel
theorem dX7_lesser_10 : decode cX7_lesser 10 = .ok (.ireturn, 1) := by decide +kernel
theorem dX7_saves_0 : decode cX7_saves 0 = .ok (.aload_n 0, 1) := by decide +kernel
theorem dX7_saves_1 : decode cX7_saves 1 = .ok (.getfield 31, 3) := by decide +kernel
theorem dX7_saves_4 : decode cX7_saves 4 = .ok (.iconst 4, 1) := by decide +kernel
theorem dX7_saves_5 : decode cX7_saves 5 = .ok (.if_icmp .ne 44, 3) := by decide +kernel
theorem dX7_saves_8 : decode cX7_saves 8 = .ok (.iconst 0, 1) := by decide +kernel
theorem dX7_saves_9 : decode cX7_saves 9 = .ok (.istore_n 1, 1) := by decide +kernel
theorem dX7_saves_10 : decode cX7_saves 10 = .ok (.iload_n 1, 1) := by decide +kernel
theorem dX7_saves_11 : decode cX7_saves 11 = .ok (.sipush 762, 3) := by decide +kernel
theorem dX7_saves_14 : decode cX7_saves 14 = .ok (.if_icmp .ge 25, 3) := by decide +kernel
theorem dX7_saves_17 : decode cX7_saves 17 = .ok (.aload_n 0, 1) := by decide +kernel
theorem dX7_saves_18 : decode cX7_saves 18 = .ok (.getfield 13, 3) := by decide +kernel
theorem dX7_saves_21 : decode cX7_saves 21 = .ok (.iload_n 1, 1) := by decide +kernel
theorem dX7_saves_22 : decode cX7_saves 22 = .ok (.aload_n 0, 1) := by decide +kernel
theorem dX7_saves_23 : decode cX7_saves 23 = .ok (.getfield 13, 3) := by decide +kernel
