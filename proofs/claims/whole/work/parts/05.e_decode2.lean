theorem dX7_saves_26 : decode cX7_saves 26 = .ok (.iload_n 1, 1) := by decide +kernel
theorem dX7_saves_27 : decode cX7_saves 27 = .ok (.sipush 254, 3) := by decide +kernel
theorem dX7_saves_30 : decode cX7_saves 30 = .ok (.iadd, 1) := by decide +kernel
theorem dX7_saves_31 : decode cX7_saves 31 = .ok (.iaload, 1) := by decide +kernel
theorem dX7_saves_32 : decode cX7_saves 32 = .ok (.iastore, 1) := by decide +kernel
theorem dX7_saves_33 : decode cX7_saves 33 = .ok (.iinc 1 1, 3) := by decide +kernel
theorem dX7_saves_36 : decode cX7_saves 36 = .ok (.goto (-26), 3) := by decide +kernel
theorem dX7_saves_39 : decode cX7_saves 39 = .ok (.aload_n 0, 1) := by decide +kernel
theorem dX7_saves_40 : decode cX7_saves 40 = .ok (.dup, 1) := by decide +kernel
theorem dX7_saves_41 : decode cX7_saves 41 = .ok (.getfield 31, 3) := by decide +kernel
theorem dX7_saves_44 : decode cX7_saves 44 = .ok (.iconst 1, 1) := by decide +kernel
theorem dX7_saves_45 : decode cX7_saves 45 = .ok (.isub, 1) := by decide +kernel
theorem dX7_saves_46 : decode cX7_saves 46 = .ok (.putfield 31, 3) := by decide +kernel
theorem dX7_saves_49 : decode cX7_saves 49 = .ok (.iconst 0, 1) := by decide +kernel
theorem dX7_saves_50 : decode cX7_saves 50 = .ok (.istore_n 1, 1) := by decide +kernel
theorem dX7_saves_51 : decode cX7_saves 51 = .ok (.iload_n 1, 1) := by decide +kernel
theorem dX7_saves_52 : decode cX7_saves 52 = .ok (.sipush 254, 3) := by decide +kernel
theorem dX7_saves_55 : decode cX7_saves 55 = .ok (.if_icmp .ge 30, 3) := by decide +kernel
theorem dX7_saves_58 : decode cX7_saves 58 = .ok (.aload_n 0, 1) := by decide +kernel
theorem dX7_saves_59 : decode cX7_saves 59 = .ok (.getfield 13, 3) := by decide +kernel
theorem dX7_saves_62 : decode cX7_saves 62 = .ok (.sipush 254, 3) := by decide +kernel
theorem dX7_saves_65 : decode cX7_saves 65 = .ok (.aload_n 0, 1) := by decide +kernel
theorem dX7_saves_66 : decode cX7_saves 66 = .ok (.getfield 31, 3) := by decide +kernel
theorem dX7_saves_69 : decode cX7_saves 69 = .ok (.imul, 1) := by decide +kernel
theorem dX7_saves_70 : decode cX7_saves 70 = .ok (.iload_n 1, 1) := by decide +kernel
theorem dX7_saves_71 : decode cX7_saves 71 = .ok (.iadd, 1) := by decide +kernel
theorem dX7_saves_72 : decode cX7_saves 72 = .ok (.aload_n 0, 1) := by decide +kernel
theorem dX7_saves_73 : decode cX7_saves 73 = .ok (.getfield 7, 3) := by decide +kernel
theorem dX7_saves_76 : decode cX7_saves 76 = .ok (.iload_n 1, 1) := by decide +kernel
theorem dX7_saves_77 : decode cX7_saves 77 = .ok (.iaload, 1) := by decide +kernel
theorem dX7_saves_78 : decode cX7_saves 78 = .ok (.iastore, 1) := by decide +kernel
theorem dX7_saves_79 : decode cX7_saves 79 = .ok (.iinc 1 1, 3) := by decide +kernel
theorem dX7_saves_82 : decode cX7_saves 82 = .ok (.goto (-31), 3) := by decide +kernel
theorem dX7_saves_85 : decode cX7_saves 85 = .ok (.aload_n 0, 1) := by decide +kernel
theorem dX7_saves_86 : decode cX7_saves 86 = .ok (.dup, 1) := by decide +kernel
theorem dX7_saves_87 : decode cX7_saves 87 = .ok (.getfield 31, 3) := by decide +kernel
theorem dX7_saves_90 : decode cX7_saves 90 = .ok (.iconst 1, 1) := by decide +kernel
theorem dX7_saves_91 : decode cX7_saves 91 = .ok (.iadd, 1) := by decide +kernel
theorem dX7_saves_92 : decode cX7_saves 92 = .ok (.putfield 31, 3) := by decide +kernel
theorem dX7_saves_95 : decode cX7_saves 95 = .ok (.return_, 1) := by decide +kernel
theorem dX7_undo_0 : decode cX7_undo 0 = .ok (.aload_n 0, 1) := by decide +kernel
theorem dX7_undo_1 : decode cX7_undo 1 = .ok (.aload_n 0, 1) := by decide +kernel
theorem dX7_undo_2 : decode cX7_undo 2 = .ok (.getfield 31, 3) := by decide +kernel
theorem dX7_undo_5 : decode cX7_undo 5 = .ok (.ifCond .ne 7, 3) := by decide +kernel
theorem dX7_undo_8 : decode cX7_undo 8 = .ok (.iconst 1, 1) := by decide +kernel
theorem dX7_undo_9 : decode cX7_undo 9 = .ok (.goto 4, 3) := by decide +kernel
theorem dX7_undo_12 : decode cX7_undo 12 = .ok (.iconst 0, 1) := by decide +kernel
theorem dX7_undo_13 : decode cX7_undo 13 = .ok (.invokevirtual 34, 3) := by decide +kernel
theorem dX7_undo_16 : decode cX7_undo 16 = .ok (.ifCond .eq 5, 3) := by decide +kernel
theorem dX7_undo_19 : decode cX7_undo 19 = .ok (.iconst 0, 1) := by decide +kernel
theorem dX7_undo_20 : decode cX7_undo 20 = .ok (.ireturn, 1) := by decide +kernel
theorem dX7_undo_21 : decode cX7_undo 21 = .ok (.aload_n 0, 1) := by decide +kernel
theorem dX7_undo_22 : decode cX7_undo 22 = .ok (.dup, 1) := by decide +kernel
theorem dX7_undo_23 : decode cX7_undo 23 = .ok (.getfield 31, 3) := by decide +kernel
theorem dX7_undo_26 : decode cX7_undo 26 = .ok (.iconst 1, 1) := by decide +kernel
theorem dX7_undo_27 : decode cX7_undo 27 = .ok (.isub, 1) := by decide +kernel
theorem dX7_undo_28 : decode cX7_undo 28 = .ok (.putfield 31, 3) := by decide +kernel
theorem dX7_undo_31 : decode cX7_undo 31 = .ok (.iconst 0, 1) := by decide +kernel
theorem dX7_undo_32 : decode cX7_undo 32 = .ok (.istore_n 1, 1) := by decide +kernel
theorem dX7_undo_33 : decode cX7_undo 33 = .ok (.iload_n 1, 1) := by decide +kernel
theorem dX7_undo_34 : decode cX7_undo 34 = .ok (.sipush 254, 3) := by decide +kernel
theorem dX7_undo_37 : decode cX7_undo 37 = .ok (.if_icmp .ge 30, 3) := by decide +kernel
theorem dX7_undo_40 : decode cX7_undo 40 = .ok (.aload_n 0, 1) := by decide +kernel
theorem dX7_undo_41 : decode cX7_undo 41 = .ok (.getfield 7, 3) := by decide +kernel
theorem dX7_undo_44 : decode cX7_undo 44 = .ok (.iload_n 1, 1) := by decide +kernel
theorem dX7_undo_45 : decode cX7_undo 45 = .ok (.aload_n 0, 1) := by decide +kernel
theorem dX7_undo_46 : decode cX7_undo 46 = .ok (.getfield 13, 3) := by decide +kernel
theorem dX7_undo_49 : decode cX7_undo 49 = .ok (.sipush 254, 3) := by decide +kernel
theorem dX7_undo_52 : decode cX7_undo 52 = .ok (.aload_n 0, 1) := by decide +kernel
theorem dX7_undo_53 : decode cX7_undo 53 = .ok (.getfield 31, 3) := by decide +kernel
theorem dX7_undo_56 : decode cX7_undo 56 = .ok (.imul, 1) := by decide +kernel
theorem dX7_undo_57 : decode cX7_undo 57 = .ok (.iload_n 1, 1) := by decide +kernel
theorem dX7_undo_58 : decode cX7_undo 58 = .ok (.iadd, 1) := by decide +kernel
theorem dX7_undo_59 : decode cX7_undo 59 = .ok (.iaload, 1) := by decide +kernel
theorem dX7_undo_60 : decode cX7_undo 60 = .ok (.iastore, 1) := by decide +kernel
theorem dX7_undo_61 : decode cX7_undo 61 = .ok (.iinc 1 1, 3) := by decide +kernel
theorem dX7_undo_64 : decode cX7_undo 64 = .ok (.goto (-31), 3) := by decide +kernel
theorem dX7_undo_67 : decode cX7_undo 67 = .ok (.aload_n 0, 1) := by decide +kernel
theorem dX7_undo_68 : decode cX7_undo 68 = .ok (.getfield 31, 3) := by decide +kernel
theorem dX7_undo_71 : decode cX7_undo 71 = .ok (.ireturn, 1) := by decide +kernel
theorem dX7_laysAside_0 : decode cX7_laysAside 0 = .ok (.iconst 0, 1) := by decide +kernel
theorem dX7_laysAside_1 : decode cX7_laysAside 1 = .ok (.istore_n 1, 1) := by decide +kernel
theorem dX7_laysAside_2 : decode cX7_laysAside 2 = .ok (.iload_n 1, 1) := by decide +kernel
theorem dX7_laysAside_3 : decode cX7_laysAside 3 = .ok (.sipush 254, 3) := by decide +kernel
theorem dX7_laysAside_6 : decode cX7_laysAside 6 = .ok (.if_icmp .ge 21, 3) := by decide +kernel
theorem dX7_laysAside_9 : decode cX7_laysAside 9 = .ok (.aload_n 0, 1) := by decide +kernel
theorem dX7_laysAside_10 : decode cX7_laysAside 10 = .ok (.getfield 16, 3) := by decide +kernel
theorem dX7_laysAside_13 : decode cX7_laysAside 13 = .ok (.iload_n 1, 1) := by decide +kernel
theorem dX7_laysAside_14 : decode cX7_laysAside 14 = .ok (.aload_n 0, 1) := by decide +kernel
theorem dX7_laysAside_15 : decode cX7_laysAside 15 = .ok (.getfield 7, 3) := by decide +kernel
theorem dX7_laysAside_18 : decode cX7_laysAside 18 = .ok (.iload_n 1, 1) := by decide +kernel
theorem dX7_laysAside_19 : decode cX7_laysAside 19 = .ok (.iaload, 1) := by decide +kernel
theorem dX7_laysAside_20 : decode cX7_laysAside 20 = .ok (.iastore, 1) := by decide +kernel
theorem dX7_laysAside_21 : decode cX7_laysAside 21 = .ok (.iinc 1 1, 3) := by decide +kernel
theorem dX7_laysAside_24 : decode cX7_laysAside 24 = .ok (.goto (-22), 3) := by decide +kernel
theorem dX7_laysAside_27 : decode cX7_laysAside 27 = .ok (.return_, 1) := by decide +kernel
theorem dX7_takesBack_0 : decode cX7_takesBack 0 = .ok (.iconst 0, 1) := by decide +kernel
theorem dX7_takesBack_1 : decode cX7_takesBack 1 = .ok (.istore_n 1, 1) := by decide +kernel
theorem dX7_takesBack_2 : decode cX7_takesBack 2 = .ok (.iload_n 1, 1) := by decide +kernel
theorem dX7_takesBack_3 : decode cX7_takesBack 3 = .ok (.sipush 254, 3) := by decide +kernel
theorem dX7_takesBack_6 : decode cX7_takesBack 6 = .ok (.if_icmp .ge 21, 3) := by decide +kernel
theorem dX7_takesBack_9 : decode cX7_takesBack 9 = .ok (.aload_n 0, 1) := by decide +kernel
theorem dX7_takesBack_10 : decode cX7_takesBack 10 = .ok (.getfield 7, 3) := by decide +kernel
theorem dX7_takesBack_13 : decode cX7_takesBack 13 = .ok (.iload_n 1, 1) := by decide +kernel
theorem dX7_takesBack_14 : decode cX7_takesBack 14 = .ok (.aload_n 0, 1) := by decide +kernel
theorem dX7_takesBack_15 : decode cX7_takesBack 15 = .ok (.getfield 16, 3) := by decide +kernel
theorem dX7_takesBack_18 : decode cX7_takesBack 18 = .ok (.iload_n 1, 1) := by decide +kernel
theorem dX7_takesBack_19 : decode cX7_takesBack 19 = .ok (.iaload, 1) := by decide +kernel
theorem dX7_takesBack_20 : decode cX7_takesBack 20 = .ok (.iastore, 1) := by decide +kernel
theorem dX7_takesBack_21 : decode cX7_takesBack 21 = .ok (.iinc 1 1, 3) := by decide +kernel
theorem dX7_takesBack_24 : decode cX7_takesBack 24 = .ok (.goto (-22), 3) := by decide +kernel
theorem dX7_takesBack_27 : decode cX7_takesBack 27 = .ok (.return_, 1) := by decide +kernel
theorem dX7_begin_0 : decode cX7_begin 0 = .ok (.aload_n 0, 1) := by decide +kernel
theorem dX7_begin_1 : decode cX7_begin 1 = .ok (.iload_n 1, 1) := by decide +kernel
theorem dX7_begin_2 : decode cX7_begin 2 = .ok (.iconst 2, 1) := by decide +kernel
theorem dX7_begin_3 : decode cX7_begin 3 = .ok (.bipush 8, 2) := by decide +kernel
theorem dX7_begin_5 : decode cX7_begin 5 = .ok (.invokestatic 38, 3) := by decide +kernel
theorem dX7_begin_8 : decode cX7_begin 8 = .ok (.ifCond .eq 7, 3) := by decide +kernel
theorem dX7_begin_11 : decode cX7_begin 11 = .ok (.iconst 0, 1) := by decide +kernel
theorem dX7_begin_12 : decode cX7_begin 12 = .ok (.goto 4, 3) := by decide +kernel
theorem dX7_begin_15 : decode cX7_begin 15 = .ok (.iconst 1, 1) := by decide +kernel
theorem dX7_begin_16 : decode cX7_begin 16 = .ok (.invokevirtual 34, 3) := by decide +kernel
theorem dX7_begin_19 : decode cX7_begin 19 = .ok (.ifCond .eq 5, 3) := by decide +kernel
theorem dX7_begin_22 : decode cX7_begin 22 = .ok (.iconst 0, 1) := by decide +kernel
theorem dX7_begin_23 : decode cX7_begin 23 = .ok (.ireturn, 1) := by decide +kernel
theorem dX7_begin_24 : decode cX7_begin 24 = .ok (.aload_n 0, 1) := by decide +kernel
theorem dX7_begin_25 : decode cX7_begin 25 = .ok (.invokevirtual 42, 3) := by decide +kernel
theorem dX7_begin_28 : decode cX7_begin 28 = .ok (.aload_n 0, 1) := by decide +kernel
theorem dX7_begin_29 : decode cX7_begin 29 = .ok (.getfield 7, 3) := by decide +kernel
theorem dX7_begin_32 : decode cX7_begin 32 = .ok (.bipush 9, 2) := by decide +kernel
theorem dX7_begin_34 : decode cX7_begin 34 = .ok (.iaload, 1) := by decide +kernel
theorem dX7_begin_35 : decode cX7_begin 35 = .ok (.istore_n 2, 1) := by decide +kernel
theorem dX7_begin_36 : decode cX7_begin 36 = .ok (.aload_n 0, 1) := by decide +kernel
theorem dX7_begin_37 : decode cX7_begin 37 = .ok (.iload_n 1, 1) := by decide +kernel
theorem dX7_begin_38 : decode cX7_begin 38 = .ok (.invokevirtual 22, 3) := by decide +kernel
theorem dX7_begin_41 : decode cX7_begin 41 = .ok (.iload_n 2, 1) := by decide +kernel
theorem dX7_begin_42 : decode cX7_begin 42 = .ok (.ireturn, 1) := by decide +kernel
theorem dX7_isSetting_0 : decode cX7_isSetting 0 = .ok (.iload_n 0, 1) := by decide +kernel
theorem dX7_isSetting_1 : decode cX7_isSetting 1 = .ok (.tableswitch 107 0 6 #[43, 53, 61, 70, 80, 89, 98], 43) := by decide +kernel
theorem dX7_isSetting_44 : decode cX7_isSetting 44 = .ok (.iload_n 1, 1) := by decide +kernel
theorem dX7_isSetting_45 : decode cX7_isSetting 45 = .ok (.bipush 16, 2) := by decide +kernel
theorem dX7_isSetting_47 : decode cX7_isSetting 47 = .ok (.sipush 128, 3) := by decide +kernel
theorem dX7_isSetting_50 : decode cX7_isSetting 50 = .ok (.invokestatic 38, 3) := by decide +kernel
theorem dX7_isSetting_53 : decode cX7_isSetting 53 = .ok (.ireturn, 1) := by decide +kernel
theorem dX7_isSetting_54 : decode cX7_isSetting 54 = .ok (.iload_n 1, 1) := by decide +kernel
theorem dX7_isSetting_55 : decode cX7_isSetting 55 = .ok (.iconst 1, 1) := by decide +kernel
theorem dX7_isSetting_56 : decode cX7_isSetting 56 = .ok (.bipush 50, 2) := by decide +kernel
theorem dX7_isSetting_58 : decode cX7_isSetting 58 = .ok (.invokestatic 38, 3) := by decide +kernel
theorem dX7_isSetting_61 : decode cX7_isSetting 61 = .ok (.ireturn, 1) := by decide +kernel
theorem dX7_isSetting_62 : decode cX7_isSetting 62 = .ok (.iload_n 1, 1) := by decide +kernel
theorem dX7_isSetting_63 : decode cX7_isSetting 63 = .ok (.iconst 1, 1) := by decide +kernel
theorem dX7_isSetting_64 : decode cX7_isSetting 64 = .ok (.sipush 200, 3) := by decide +kernel
theorem dX7_isSetting_67 : decode cX7_isSetting 67 = .ok (.invokestatic 38, 3) := by decide +kernel
theorem dX7_isSetting_70 : decode cX7_isSetting 70 = .ok (.ireturn, 1) := by decide +kernel
theorem dX7_isSetting_71 : decode cX7_isSetting 71 = .ok (.iload_n 1, 1) := by decide +kernel
theorem dX7_isSetting_72 : decode cX7_isSetting 72 = .ok (.bipush 20, 2) := by decide +kernel
theorem dX7_isSetting_74 : decode cX7_isSetting 74 = .ok (.sipush 200, 3) := by decide +kernel
theorem dX7_isSetting_77 : decode cX7_isSetting 77 = .ok (.invokestatic 38, 3) := by decide +kernel
theorem dX7_isSetting_80 : decode cX7_isSetting 80 = .ok (.ireturn, 1) := by decide +kernel
theorem dX7_isSetting_81 : decode cX7_isSetting 81 = .ok (.iload_n 1, 1) := by decide +kernel
theorem dX7_isSetting_82 : decode cX7_isSetting 82 = .ok (.iconst 0, 1) := by decide +kernel
theorem dX7_isSetting_83 : decode cX7_isSetting 83 = .ok (.sipush 200, 3) := by decide +kernel
theorem dX7_isSetting_86 : decode cX7_isSetting 86 = .ok (.invokestatic 38, 3) := by decide +kernel
theorem dX7_isSetting_89 : decode cX7_isSetting 89 = .ok (.ireturn, 1) := by decide +kernel
theorem dX7_isSetting_90 : decode cX7_isSetting 90 = .ok (.iload_n 1, 1) := by decide +kernel
theorem dX7_isSetting_91 : decode cX7_isSetting 91 = .ok (.iconst 1, 1) := by decide +kernel
theorem dX7_isSetting_92 : decode cX7_isSetting 92 = .ok (.sipush 500, 3) := by decide +kernel
theorem dX7_isSetting_95 : decode cX7_isSetting 95 = .ok (.invokestatic 38, 3) := by decide +kernel
theorem dX7_isSetting_98 : decode cX7_isSetting 98 = .ok (.ireturn, 1) := by decide +kernel
theorem dX7_isSetting_99 : decode cX7_isSetting 99 = .ok (.iload_n 1, 1) := by decide +kernel
theorem dX7_isSetting_100 : decode cX7_isSetting 100 = .ok (.iconst 0, 1) := by decide +kernel
theorem dX7_isSetting_101 : decode cX7_isSetting 101 = .ok (.sipush 1000, 3) := by decide +kernel
theorem dX7_isSetting_104 : decode cX7_isSetting 104 = .ok (.invokestatic 38, 3) := by decide +kernel
theorem dX7_isSetting_107 : decode cX7_isSetting 107 = .ok (.ireturn, 1) := by decide +kernel
theorem dX7_isSetting_108 : decode cX7_isSetting 108 = .ok (.iload_n 0, 1) := by decide +kernel
theorem dX7_isSetting_109 : decode cX7_isSetting 109 = .ok (.bipush 7, 2) := by decide +kernel
theorem dX7_isSetting_111 : decode cX7_isSetting 111 = .ok (.if_icmp .ne 17, 3) := by decide +kernel
theorem dX7_isSetting_114 : decode cX7_isSetting 114 = .ok (.iload_n 1, 1) := by decide +kernel
theorem dX7_isSetting_115 : decode cX7_isSetting 115 = .ok (.iconst 0, 1) := by decide +kernel
theorem dX7_isSetting_116 : decode cX7_isSetting 116 = .ok (.bipush 100, 2) := by decide +kernel
theorem dX7_isSetting_118 : decode cX7_isSetting 118 = .ok (.invokestatic 38, 3) := by decide +kernel
theorem dX7_isSetting_121 : decode cX7_isSetting 121 = .ok (.ifCond .eq 7, 3) := by decide +kernel
theorem dX7_isSetting_124 : decode cX7_isSetting 124 = .ok (.iconst 1, 1) := by decide +kernel
theorem dX7_isSetting_125 : decode cX7_isSetting 125 = .ok (.goto 4, 3) := by decide +kernel
theorem dX7_isSetting_128 : decode cX7_isSetting 128 = .ok (.iconst 0, 1) := by decide +kernel
theorem dX7_isSetting_129 : decode cX7_isSetting 129 = .ok (.ireturn, 1) := by decide +kernel
theorem dX7_set_0 : decode cX7_set 0 = .ok (.aload_n 0, 1) := by decide +kernel
theorem dX7_set_1 : decode cX7_set 1 = .ok (.iload_n 1, 1) := by decide +kernel
theorem dX7_set_2 : decode cX7_set 2 = .ok (.iload_n 2, 1) := by decide +kernel
theorem dX7_set_3 : decode cX7_set 3 = .ok (.invokestatic 45, 3) := by decide +kernel
theorem dX7_set_6 : decode cX7_set 6 = .ok (.ifCond .eq 7, 3) := by decide +kernel
theorem dX7_set_9 : decode cX7_set 9 = .ok (.iconst 0, 1) := by decide +kernel
theorem dX7_set_10 : decode cX7_set 10 = .ok (.goto 4, 3) := by decide +kernel
theorem dX7_set_13 : decode cX7_set 13 = .ok (.iconst 1, 1) := by decide +kernel
theorem dX7_set_14 : decode cX7_set 14 = .ok (.invokevirtual 34, 3) := by decide +kernel
theorem dX7_set_17 : decode cX7_set 17 = .ok (.ifCond .eq 5, 3) := by decide +kernel
theorem dX7_set_20 : decode cX7_set 20 = .ok (.iconst 0, 1) := by decide +kernel
theorem dX7_set_21 : decode cX7_set 21 = .ok (.ireturn, 1) := by decide +kernel
theorem dX7_set_22 : decode cX7_set 22 = .ok (.aload_n 0, 1) := by decide +kernel
theorem dX7_set_23 : decode cX7_set 23 = .ok (.invokevirtual 42, 3) := by decide +kernel
theorem dX7_set_26 : decode cX7_set 26 = .ok (.aload_n 0, 1) := by decide +kernel
theorem dX7_set_27 : decode cX7_set 27 = .ok (.getfield 7, 3) := by decide +kernel
theorem dX7_set_30 : decode cX7_set 30 = .ok (.iload_n 1, 1) := by decide +kernel
theorem dX7_set_31 : decode cX7_set 31 = .ok (.iaload, 1) := by decide +kernel
theorem dX7_set_32 : decode cX7_set 32 = .ok (.istore_n 3, 1) := by decide +kernel
theorem dX7_set_33 : decode cX7_set 33 = .ok (.aload_n 0, 1) := by decide +kernel
theorem dX7_set_34 : decode cX7_set 34 = .ok (.getfield 7, 3) := by decide +kernel
theorem dX7_set_37 : decode cX7_set 37 = .ok (.iload_n 1, 1) := by decide +kernel
theorem dX7_set_38 : decode cX7_set 38 = .ok (.iload_n 2, 1) := by decide +kernel
theorem dX7_set_39 : decode cX7_set 39 = .ok (.iastore, 1) := by decide +kernel
theorem dX7_set_40 : decode cX7_set 40 = .ok (.iload_n 3, 1) := by decide +kernel
theorem dX7_set_41 : decode cX7_set 41 = .ok (.ireturn, 1) := by decide +kernel
theorem dX7_value_0 : decode cX7_value 0 = .ok (.aload_n 0, 1) := by decide +kernel
theorem dX7_value_1 : decode cX7_value 1 = .ok (.iload_n 1, 1) := by decide +kernel
theorem dX7_value_2 : decode cX7_value 2 = .ok (.iconst 0, 1) := by decide +kernel
theorem dX7_value_3 : decode cX7_value 3 = .ok (.bipush 8, 2) := by decide +kernel
theorem dX7_value_5 : decode cX7_value 5 = .ok (.invokestatic 38, 3) := by decide +kernel
theorem dX7_value_8 : decode cX7_value 8 = .ok (.ifCond .eq 7, 3) := by decide +kernel
theorem dX7_value_11 : decode cX7_value 11 = .ok (.iconst 0, 1) := by decide +kernel
theorem dX7_value_12 : decode cX7_value 12 = .ok (.goto 4, 3) := by decide +kernel
theorem dX7_value_15 : decode cX7_value 15 = .ok (.iconst 1, 1) := by decide +kernel
theorem dX7_value_16 : decode cX7_value 16 = .ok (.invokevirtual 34, 3) := by decide +kernel
theorem dX7_value_19 : decode cX7_value 19 = .ok (.ifCond .eq 7, 3) := by decide +kernel
theorem dX7_value_22 : decode cX7_value 22 = .ok (.iconst 0, 1) := by decide +kernel
theorem dX7_value_23 : decode cX7_value 23 = .ok (.goto 9, 3) := by decide +kernel
theorem dX7_value_26 : decode cX7_value 26 = .ok (.aload_n 0, 1) := by decide +kernel
theorem dX7_value_27 : decode cX7_value 27 = .ok (.getfield 7, 3) := by decide +kernel
theorem dX7_value_30 : decode cX7_value 30 = .ok (.iload_n 1, 1) := by decide +kernel
theorem dX7_value_31 : decode cX7_value 31 = .ok (.iaload, 1) := by decide +kernel
theorem dX7_value_32 : decode cX7_value 32 = .ok (.ireturn, 1) := by decide +kernel
theorem dX7_isCell_0 : decode cX7_isCell 0 = .ok (.iload_n 0, 1) := by decide +kernel
theorem dX7_isCell_1 : decode cX7_isCell 1 = .ok (.iconst 0, 1) := by decide +kernel
theorem dX7_isCell_2 : decode cX7_isCell 2 = .ok (.iconst 5, 1) := by decide +kernel
theorem dX7_isCell_3 : decode cX7_isCell 3 = .ok (.invokestatic 38, 3) := by decide +kernel
theorem dX7_isCell_6 : decode cX7_isCell 6 = .ok (.ifCond .eq 16, 3) := by decide +kernel
theorem dX7_isCell_9 : decode cX7_isCell 9 = .ok (.iload_n 1, 1) := by decide +kernel
theorem dX7_isCell_10 : decode cX7_isCell 10 = .ok (.iconst 0, 1) := by decide +kernel
theorem dX7_isCell_11 : decode cX7_isCell 11 = .ok (.iconst 3, 1) := by decide +kernel
theorem dX7_isCell_12 : decode cX7_isCell 12 = .ok (.invokestatic 38, 3) := by decide +kernel
theorem dX7_isCell_15 : decode cX7_isCell 15 = .ok (.ifCond .eq 7, 3) := by decide +kernel
theorem dX7_isCell_18 : decode cX7_isCell 18 = .ok (.iconst 1, 1) := by decide +kernel
theorem dX7_isCell_19 : decode cX7_isCell 19 = .ok (.goto 4, 3) := by decide +kernel
theorem dX7_isCell_22 : decode cX7_isCell 22 = .ok (.iconst 0, 1) := by decide +kernel
theorem dX7_isCell_23 : decode cX7_isCell 23 = .ok (.ireturn, 1) := by decide +kernel
theorem dX7_teach_0 : decode cX7_teach 0 = .ok (.aload_n 0, 1) := by decide +kernel
theorem dX7_teach_1 : decode cX7_teach 1 = .ok (.iload_n 1, 1) := by decide +kernel
theorem dX7_teach_2 : decode cX7_teach 2 = .ok (.iload_n 2, 1) := by decide +kernel
theorem dX7_teach_3 : decode cX7_teach 3 = .ok (.invokestatic 49, 3) := by decide +kernel
theorem dX7_teach_6 : decode cX7_teach 6 = .ok (.ifCond .ne 7, 3) := by decide +kernel
theorem dX7_teach_9 : decode cX7_teach 9 = .ok (.iconst 1, 1) := by decide +kernel
theorem dX7_teach_10 : decode cX7_teach 10 = .ok (.goto 18, 3) := by decide +kernel
theorem dX7_teach_13 : decode cX7_teach 13 = .ok (.iload_n 3, 1) := by decide +kernel
theorem dX7_teach_14 : decode cX7_teach 14 = .ok (.iconst 0, 1) := by decide +kernel
theorem dX7_teach_15 : decode cX7_teach 15 = .ok (.bipush 100, 2) := by decide +kernel
theorem dX7_teach_17 : decode cX7_teach 17 = .ok (.invokestatic 38, 3) := by decide +kernel
theorem dX7_teach_20 : decode cX7_teach 20 = .ok (.ifCond .eq 7, 3) := by decide +kernel
theorem dX7_teach_23 : decode cX7_teach 23 = .ok (.iconst 0, 1) := by decide +kernel
theorem dX7_teach_24 : decode cX7_teach 24 = .ok (.goto 4, 3) := by decide +kernel
theorem dX7_teach_27 : decode cX7_teach 27 = .ok (.iconst 2, 1) := by decide +kernel
theorem dX7_teach_28 : decode cX7_teach 28 = .ok (.invokevirtual 34, 3) := by decide +kernel
theorem dX7_teach_31 : decode cX7_teach 31 = .ok (.ifCond .eq 5, 3) := by decide +kernel
theorem dX7_teach_34 : decode cX7_teach 34 = .ok (.iconst 0, 1) := by decide +kernel
theorem dX7_teach_35 : decode cX7_teach 35 = .ok (.ireturn, 1) := by decide +kernel
theorem dX7_teach_36 : decode cX7_teach 36 = .ok (.aload_n 0, 1) := by decide +kernel
theorem dX7_teach_37 : decode cX7_teach 37 = .ok (.invokevirtual 42, 3) := by decide +kernel
theorem dX7_teach_40 : decode cX7_teach 40 = .ok (.bipush 49, 2) := by decide +kernel
theorem dX7_teach_42 : decode cX7_teach 42 = .ok (.iconst 4, 1) := by decide +kernel
theorem dX7_teach_43 : decode cX7_teach 43 = .ok (.iload_n 1, 1) := by decide +kernel
theorem dX7_teach_44 : decode cX7_teach 44 = .ok (.imul, 1) := by decide +kernel
theorem dX7_teach_45 : decode cX7_teach 45 = .ok (.iadd, 1) := by decide +kernel
theorem dX7_teach_46 : decode cX7_teach 46 = .ok (.iload_n 2, 1) := by decide +kernel
theorem dX7_teach_47 : decode cX7_teach 47 = .ok (.iadd, 1) := by decide +kernel
theorem dX7_teach_48 : decode cX7_teach 48 = .ok (.istore 4, 2) := by decide +kernel
theorem dX7_teach_50 : decode cX7_teach 50 = .ok (.aload_n 0, 1) := by decide +kernel
theorem dX7_teach_51 : decode cX7_teach 51 = .ok (.getfield 7, 3) := by decide +kernel
theorem dX7_teach_54 : decode cX7_teach 54 = .ok (.iload 4, 2) := by decide +kernel
theorem dX7_teach_56 : decode cX7_teach 56 = .ok (.iaload, 1) := by decide +kernel
theorem dX7_teach_57 : decode cX7_teach 57 = .ok (.istore 5, 2) := by decide +kernel
theorem dX7_teach_59 : decode cX7_teach 59 = .ok (.aload_n 0, 1) := by decide +kernel
theorem dX7_teach_60 : decode cX7_teach 60 = .ok (.getfield 7, 3) := by decide +kernel
theorem dX7_teach_63 : decode cX7_teach 63 = .ok (.iload 4, 2) := by decide +kernel
theorem dX7_teach_65 : decode cX7_teach 65 = .ok (.iload_n 3, 1) := by decide +kernel
theorem dX7_teach_66 : decode cX7_teach 66 = .ok (.iastore, 1) := by decide +kernel
theorem dX7_teach_67 : decode cX7_teach 67 = .ok (.iload 5, 2) := by decide +kernel
theorem dX7_teach_69 : decode cX7_teach 69 = .ok (.ireturn, 1) := by decide +kernel
theorem dX7_breakSensor_0 : decode cX7_breakSensor 0 = .ok (.aload_n 0, 1) := by decide +kernel
theorem dX7_breakSensor_1 : decode cX7_breakSensor 1 = .ok (.iconst 0, 1) := by decide +kernel
theorem dX7_breakSensor_2 : decode cX7_breakSensor 2 = .ok (.putfield 27, 3) := by decide +kernel
theorem dX7_breakSensor_5 : decode cX7_breakSensor 5 = .ok (.aload_n 0, 1) := by decide +kernel
theorem dX7_breakSensor_6 : decode cX7_breakSensor 6 = .ok (.invokevirtual 42, 3) := by decide +kernel
theorem dX7_breakSensor_9 : decode cX7_breakSensor 9 = .ok (.aload_n 0, 1) := by decide +kernel
theorem dX7_breakSensor_10 : decode cX7_breakSensor 10 = .ok (.getfield 7, 3) := by decide +kernel
theorem dX7_breakSensor_13 : decode cX7_breakSensor 13 = .ok (.bipush 11, 2) := by decide +kernel
theorem dX7_breakSensor_15 : decode cX7_breakSensor 15 = .ok (.iaload, 1) := by decide +kernel
theorem dX7_breakSensor_16 : decode cX7_breakSensor 16 = .ok (.iconst 1, 1) := by decide +kernel
theorem dX7_breakSensor_17 : decode cX7_breakSensor 17 = .ok (.if_icmp .ne 7, 3) := by decide +kernel
theorem dX7_breakSensor_20 : decode cX7_breakSensor 20 = .ok (.iconst 1, 1) := by decide +kernel
theorem dX7_breakSensor_21 : decode cX7_breakSensor 21 = .ok (.goto 4, 3) := by decide +kernel
theorem dX7_breakSensor_24 : decode cX7_breakSensor 24 = .ok (.iconst 0, 1) := by decide +kernel
theorem dX7_breakSensor_25 : decode cX7_breakSensor 25 = .ok (.istore_n 2, 1) := by decide +kernel
theorem dX7_breakSensor_26 : decode cX7_breakSensor 26 = .ok (.aload_n 0, 1) := by decide +kernel
theorem dX7_breakSensor_27 : decode cX7_breakSensor 27 = .ok (.getfield 7, 3) := by decide +kernel
theorem dX7_breakSensor_30 : decode cX7_breakSensor 30 = .ok (.bipush 11, 2) := by decide +kernel
theorem dX7_breakSensor_32 : decode cX7_breakSensor 32 = .ok (.iload_n 1, 1) := by decide +kernel
theorem dX7_breakSensor_33 : decode cX7_breakSensor 33 = .ok (.ifCond .eq 7, 3) := by decide +kernel
theorem dX7_breakSensor_36 : decode cX7_breakSensor 36 = .ok (.iconst 1, 1) := by decide +kernel
theorem dX7_breakSensor_37 : decode cX7_breakSensor 37 = .ok (.goto 4, 3) := by decide +kernel
theorem dX7_breakSensor_40 : decode cX7_breakSensor 40 = .ok (.iconst 0, 1) := by decide +kernel
theorem dX7_breakSensor_41 : decode cX7_breakSensor 41 = .ok (.iastore, 1) := by decide +kernel
theorem dX7_breakSensor_42 : decode cX7_breakSensor 42 = .ok (.iload_n 2, 1) := by decide +kernel
theorem dX7_breakSensor_43 : decode cX7_breakSensor 43 = .ok (.ireturn, 1) := by decide +kernel
theorem dX7_seed_0 : decode cX7_seed 0 = .ok (.aload_n 0, 1) := by decide +kernel
theorem dX7_seed_1 : decode cX7_seed 1 = .ok (.iload_n 1, 1) := by decide +kernel
theorem dX7_seed_2 : decode cX7_seed 2 = .ok (.iconst 0, 1) := by decide +kernel
theorem dX7_seed_3 : decode cX7_seed 3 = .ok (.ldc 52, 2) := by decide +kernel
theorem dX7_seed_5 : decode cX7_seed 5 = .ok (.invokestatic 38, 3) := by decide +kernel
theorem dX7_seed_8 : decode cX7_seed 8 = .ok (.ifCond .eq 7, 3) := by decide +kernel
theorem dX7_seed_11 : decode cX7_seed 11 = .ok (.iconst 0, 1) := by decide +kernel
theorem dX7_seed_12 : decode cX7_seed 12 = .ok (.goto 4, 3) := by decide +kernel
theorem dX7_seed_15 : decode cX7_seed 15 = .ok (.iconst 1, 1) := by decide +kernel
theorem dX7_seed_16 : decode cX7_seed 16 = .ok (.invokevirtual 34, 3) := by decide +kernel
theorem dX7_seed_19 : decode cX7_seed 19 = .ok (.ifCond .eq 5, 3) := by decide +kernel
theorem dX7_seed_22 : decode cX7_seed 22 = .ok (.iconst 0, 1) := by decide +kernel
theorem dX7_seed_23 : decode cX7_seed 23 = .ok (.ireturn, 1) := by decide +kernel
theorem dX7_seed_24 : decode cX7_seed 24 = .ok (.aload_n 0, 1) := by decide +kernel
theorem dX7_seed_25 : decode cX7_seed 25 = .ok (.invokevirtual 42, 3) := by decide +kernel
theorem dX7_seed_28 : decode cX7_seed 28 = .ok (.aload_n 0, 1) := by decide +kernel
theorem dX7_seed_29 : decode cX7_seed 29 = .ok (.getfield 7, 3) := by decide +kernel
theorem dX7_seed_32 : decode cX7_seed 32 = .ok (.bipush 10, 2) := by decide +kernel
theorem dX7_seed_34 : decode cX7_seed 34 = .ok (.iaload, 1) := by decide +kernel
theorem dX7_seed_35 : decode cX7_seed 35 = .ok (.istore_n 2, 1) := by decide +kernel
theorem dX7_seed_36 : decode cX7_seed 36 = .ok (.aload_n 0, 1) := by decide +kernel
theorem dX7_seed_37 : decode cX7_seed 37 = .ok (.getfield 7, 3) := by decide +kernel
theorem dX7_seed_40 : decode cX7_seed 40 = .ok (.bipush 10, 2) := by decide +kernel
theorem dX7_seed_42 : decode cX7_seed 42 = .ok (.iload_n 1, 1) := by decide +kernel
theorem dX7_seed_43 : decode cX7_seed 43 = .ok (.iastore, 1) := by decide +kernel
theorem dX7_seed_44 : decode cX7_seed 44 = .ok (.iload_n 2, 1) := by decide +kernel
theorem dX7_seed_45 : decode cX7_seed 45 = .ok (.ireturn, 1) := by decide +kernel
theorem dX7_isPoint_0 : decode cX7_isPoint 0 = .ok (.iload_n 0, 1) := by decide +kernel
theorem dX7_isPoint_1 : decode cX7_isPoint 1 = .ok (.sipush 500, 3) := by decide +kernel
theorem dX7_isPoint_4 : decode cX7_isPoint 4 = .ok (.sipush 7000, 3) := by decide +kernel
theorem dX7_isPoint_7 : decode cX7_isPoint 7 = .ok (.invokestatic 38, 3) := by decide +kernel
theorem dX7_isPoint_10 : decode cX7_isPoint 10 = .ok (.ifCond .eq 17, 3) := by decide +kernel
theorem dX7_isPoint_13 : decode cX7_isPoint 13 = .ok (.iload_n 1, 1) := by decide +kernel
theorem dX7_isPoint_14 : decode cX7_isPoint 14 = .ok (.iconst 0, 1) := by decide +kernel
theorem dX7_isPoint_15 : decode cX7_isPoint 15 = .ok (.bipush 100, 2) := by decide +kernel
theorem dX7_isPoint_17 : decode cX7_isPoint 17 = .ok (.invokestatic 38, 3) := by decide +kernel
theorem dX7_isPoint_20 : decode cX7_isPoint 20 = .ok (.ifCond .eq 7, 3) := by decide +kernel
theorem dX7_isPoint_23 : decode cX7_isPoint 23 = .ok (.iconst 1, 1) := by decide +kernel
theorem dX7_isPoint_24 : decode cX7_isPoint 24 = .ok (.goto 4, 3) := by decide +kernel
theorem dX7_isPoint_27 : decode cX7_isPoint 27 = .ok (.iconst 0, 1) := by decide +kernel
theorem dX7_isPoint_28 : decode cX7_isPoint 28 = .ok (.ireturn, 1) := by decide +kernel
theorem dX7_cellOf_0 : decode cX7_cellOf 0 = .ok (.iconst 4, 1) := by decide +kernel
theorem dX7_cellOf_1 : decode cX7_cellOf 1 = .ok (.iload_n 0, 1) := by decide +kernel
theorem dX7_cellOf_2 : decode cX7_cellOf 2 = .ok (.sipush 500, 3) := by decide +kernel
theorem dX7_cellOf_5 : decode cX7_cellOf 5 = .ok (.isub, 1) := by decide +kernel
theorem dX7_cellOf_6 : decode cX7_cellOf 6 = .ok (.sipush 1000, 3) := by decide +kernel
theorem dX7_cellOf_9 : decode cX7_cellOf 9 = .ok (.idiv, 1) := by decide +kernel
theorem dX7_cellOf_10 : decode cX7_cellOf 10 = .ok (.iconst 5, 1) := by decide +kernel
theorem dX7_cellOf_11 : decode cX7_cellOf 11 = .ok (.invokestatic 53, 3) := by decide +kernel
theorem dX7_cellOf_14 : decode cX7_cellOf 14 = .ok (.imul, 1) := by decide +kernel
theorem dX7_cellOf_15 : decode cX7_cellOf 15 = .ok (.iload_n 1, 1) := by decide +kernel
theorem dX7_cellOf_16 : decode cX7_cellOf 16 = .ok (.bipush 25, 2) := by decide +kernel
theorem dX7_cellOf_18 : decode cX7_cellOf 18 = .ok (.idiv, 1) := by decide +kernel
theorem dX7_cellOf_19 : decode cX7_cellOf 19 = .ok (.iconst 3, 1) := by decide +kernel
theorem dX7_cellOf_20 : decode cX7_cellOf 20 = .ok (.invokestatic 53, 3) := by decide +kernel
theorem dX7_cellOf_23 : decode cX7_cellOf 23 = .ok (.iadd, 1) := by decide +kernel
theorem dX7_cellOf_24 : decode cX7_cellOf 24 = .ok (.ireturn, 1) := by decide +kernel
theorem dX7_retard_0 : decode cX7_retard 0 = .ok (.aload_n 0, 1) := by decide +kernel
theorem dX7_retard_1 : decode cX7_retard 1 = .ok (.getfield 7, 3) := by decide +kernel
theorem dX7_retard_4 : decode cX7_retard 4 = .ok (.bipush 12, 2) := by decide +kernel
theorem dX7_retard_6 : decode cX7_retard 6 = .ok (.iaload, 1) := by decide +kernel
theorem dX7_retard_7 : decode cX7_retard 7 = .ok (.iconst 1, 1) := by decide +kernel
theorem dX7_retard_8 : decode cX7_retard 8 = .ok (.if_icmp .ne 13, 3) := by decide +kernel
theorem dX7_retard_11 : decode cX7_retard 11 = .ok (.aload_n 0, 1) := by decide +kernel
theorem dX7_retard_12 : decode cX7_retard 12 = .ok (.getfield 7, 3) := by decide +kernel
theorem dX7_retard_15 : decode cX7_retard 15 = .ok (.bipush 7, 2) := by decide +kernel
theorem dX7_retard_17 : decode cX7_retard 17 = .ok (.iaload, 1) := by decide +kernel
theorem dX7_retard_18 : decode cX7_retard 18 = .ok (.goto 12, 3) := by decide +kernel
theorem dX7_retard_21 : decode cX7_retard 21 = .ok (.aload_n 0, 1) := by decide +kernel
theorem dX7_retard_22 : decode cX7_retard 22 = .ok (.getfield 7, 3) := by decide +kernel
theorem dX7_retard_25 : decode cX7_retard 25 = .ok (.bipush 17, 2) := by decide +kernel
theorem dX7_retard_27 : decode cX7_retard 27 = .ok (.iload_n 1, 1) := by decide +kernel
theorem dX7_retard_28 : decode cX7_retard 28 = .ok (.iadd, 1) := by decide +kernel
theorem dX7_retard_29 : decode cX7_retard 29 = .ok (.iaload, 1) := by decide +kernel
theorem dX7_retard_30 : decode cX7_retard 30 = .ok (.aload_n 0, 1) := by decide +kernel
theorem dX7_retard_31 : decode cX7_retard 31 = .ok (.getfield 7, 3) := by decide +kernel
theorem dX7_retard_34 : decode cX7_retard 34 = .ok (.bipush 49, 2) := by decide +kernel
theorem dX7_retard_36 : decode cX7_retard 36 = .ok (.iload_n 2, 1) := by decide +kernel
theorem dX7_retard_37 : decode cX7_retard 37 = .ok (.iadd, 1) := by decide +kernel
theorem dX7_retard_38 : decode cX7_retard 38 = .ok (.iaload, 1) := by decide +kernel
theorem dX7_retard_39 : decode cX7_retard 39 = .ok (.iadd, 1) := by decide +kernel
theorem dX7_retard_40 : decode cX7_retard 40 = .ok (.aload_n 0, 1) := by decide +kernel
theorem dX7_retard_41 : decode cX7_retard 41 = .ok (.getfield 7, 3) := by decide +kernel
theorem dX7_retard_44 : decode cX7_retard 44 = .ok (.iconst 3, 1) := by decide +kernel
theorem dX7_retard_45 : decode cX7_retard 45 = .ok (.iaload, 1) := by decide +kernel
theorem dX7_retard_46 : decode cX7_retard 46 = .ok (.invokestatic 53, 3) := by decide +kernel
theorem dX7_retard_49 : decode cX7_retard 49 = .ok (.ireturn, 1) := by decide +kernel
theorem dX7_advance_0 : decode cX7_advance 0 = .ok (.bipush 100, 2) := by decide +kernel
theorem dX7_advance_2 : decode cX7_advance 2 = .ok (.iload_n 2, 1) := by decide +kernel
theorem dX7_advance_3 : decode cX7_advance 3 = .ok (.bipush 50, 2) := by decide +kernel
theorem dX7_advance_5 : decode cX7_advance 5 = .ok (.idiv, 1) := by decide +kernel
theorem dX7_advance_6 : decode cX7_advance 6 = .ok (.iadd, 1) := by decide +kernel
theorem dX7_advance_7 : decode cX7_advance 7 = .ok (.iload_n 3, 1) := by decide +kernel
theorem dX7_advance_8 : decode cX7_advance 8 = .ok (.isub, 1) := by decide +kernel
theorem dX7_advance_9 : decode cX7_advance 9 = .ok (.aload_n 0, 1) := by decide +kernel
theorem dX7_advance_10 : decode cX7_advance 10 = .ok (.iload_n 1, 1) := by decide +kernel
theorem dX7_advance_11 : decode cX7_advance 11 = .ok (.iload_n 2, 1) := by decide +kernel
theorem dX7_advance_12 : decode cX7_advance 12 = .ok (.iload_n 3, 1) := by decide +kernel
theorem dX7_advance_13 : decode cX7_advance 13 = .ok (.invokestatic 57, 3) := by decide +kernel
theorem dX7_advance_16 : decode cX7_advance 16 = .ok (.invokevirtual 60, 3) := by decide +kernel
theorem dX7_advance_19 : decode cX7_advance 19 = .ok (.isub, 1) := by decide +kernel
theorem dX7_advance_20 : decode cX7_advance 20 = .ok (.ireturn, 1) := by decide +kernel
theorem dX7_threshold_0 : decode cX7_threshold 0 = .ok (.aload_n 0, 1) := by decide +kernel
theorem dX7_threshold_1 : decode cX7_threshold 1 = .ok (.getfield 7, 3) := by decide +kernel
theorem dX7_threshold_4 : decode cX7_threshold 4 = .ok (.bipush 25, 2) := by decide +kernel
theorem dX7_threshold_6 : decode cX7_threshold 6 = .ok (.iload_n 1, 1) := by decide +kernel
theorem dX7_threshold_7 : decode cX7_threshold 7 = .ok (.iadd, 1) := by decide +kernel
theorem dX7_threshold_8 : decode cX7_threshold 8 = .ok (.iaload, 1) := by decide +kernel
theorem dX7_threshold_9 : decode cX7_threshold 9 = .ok (.aload_n 0, 1) := by decide +kernel
theorem dX7_threshold_10 : decode cX7_threshold 10 = .ok (.getfield 7, 3) := by decide +kernel
theorem dX7_threshold_13 : decode cX7_threshold 13 = .ok (.iconst 0, 1) := by decide +kernel
theorem dX7_threshold_14 : decode cX7_threshold 14 = .ok (.iaload, 1) := by decide +kernel
theorem dX7_threshold_15 : decode cX7_threshold 15 = .ok (.imul, 1) := by decide +kernel
theorem dX7_threshold_16 : decode cX7_threshold 16 = .ok (.sipush 4096, 3) := by decide +kernel
theorem dX7_threshold_19 : decode cX7_threshold 19 = .ok (.idiv, 1) := by decide +kernel
theorem dX7_threshold_20 : decode cX7_threshold 20 = .ok (.bipush 50, 2) := by decide +kernel
theorem dX7_threshold_22 : decode cX7_threshold 22 = .ok (.iadd, 1) := by decide +kernel
theorem dX7_threshold_23 : decode cX7_threshold 23 = .ok (.ireturn, 1) := by decide +kernel
theorem dX7_logs_0 : decode cX7_logs 0 = .ok (.aload_n 0, 1) := by decide +kernel
theorem dX7_logs_1 : decode cX7_logs 1 = .ok (.getfield 7, 3) := by decide +kernel
theorem dX7_logs_4 : decode cX7_logs 4 = .ok (.bipush 73, 2) := by decide +kernel
theorem dX7_logs_6 : decode cX7_logs 6 = .ok (.iaload, 1) := by decide +kernel
theorem dX7_logs_7 : decode cX7_logs 7 = .ok (.bipush 60, 2) := by decide +kernel
theorem dX7_logs_9 : decode cX7_logs 9 = .ok (.if_icmp .ne 49, 3) := by decide +kernel
theorem dX7_logs_12 : decode cX7_logs 12 = .ok (.iconst 0, 1) := by decide +kernel
theorem dX7_logs_13 : decode cX7_logs 13 = .ok (.istore_n 3, 1) := by decide +kernel
theorem dX7_logs_14 : decode cX7_logs 14 = .ok (.iload_n 3, 1) := by decide +kernel
theorem dX7_logs_15 : decode cX7_logs 15 = .ok (.sipush 177, 3) := by decide +kernel
theorem dX7_logs_18 : decode cX7_logs 18 = .ok (.if_icmp .ge 29, 3) := by decide +kernel
theorem dX7_logs_21 : decode cX7_logs 21 = .ok (.aload_n 0, 1) := by decide +kernel
theorem dX7_logs_22 : decode cX7_logs 22 = .ok (.getfield 7, 3) := by decide +kernel
theorem dX7_logs_25 : decode cX7_logs 25 = .ok (.bipush 74, 2) := by decide +kernel
theorem dX7_logs_27 : decode cX7_logs 27 = .ok (.iload_n 3, 1) := by decide +kernel
theorem dX7_logs_28 : decode cX7_logs 28 = .ok (.iadd, 1) := by decide +kernel
theorem dX7_logs_29 : decode cX7_logs 29 = .ok (.aload_n 0, 1) := by decide +kernel
theorem dX7_logs_30 : decode cX7_logs 30 = .ok (.getfield 7, 3) := by decide +kernel
theorem dX7_logs_33 : decode cX7_logs 33 = .ok (.bipush 74, 2) := by decide +kernel
theorem dX7_logs_35 : decode cX7_logs 35 = .ok (.iload_n 3, 1) := by decide +kernel
theorem dX7_logs_36 : decode cX7_logs 36 = .ok (.iadd, 1) := by decide +kernel
theorem dX7_logs_37 : decode cX7_logs 37 = .ok (.iconst 3, 1) := by decide +kernel
theorem dX7_logs_38 : decode cX7_logs 38 = .ok (.iadd, 1) := by decide +kernel
theorem dX7_logs_39 : decode cX7_logs 39 = .ok (.iaload, 1) := by decide +kernel
theorem dX7_logs_40 : decode cX7_logs 40 = .ok (.iastore, 1) := by decide +kernel
theorem dX7_logs_41 : decode cX7_logs 41 = .ok (.iinc 3 1, 3) := by decide +kernel
theorem dX7_logs_44 : decode cX7_logs 44 = .ok (.goto (-30), 3) := by decide +kernel
theorem dX7_logs_47 : decode cX7_logs 47 = .ok (.aload_n 0, 1) := by decide +kernel
theorem dX7_logs_48 : decode cX7_logs 48 = .ok (.getfield 7, 3) := by decide +kernel
theorem dX7_logs_51 : decode cX7_logs 51 = .ok (.bipush 73, 2) := by decide +kernel
theorem dX7_logs_53 : decode cX7_logs 53 = .ok (.dup2, 1) := by decide +kernel
theorem dX7_logs_54 : decode cX7_logs 54 = .ok (.iaload, 1) := by decide +kernel
theorem dX7_logs_55 : decode cX7_logs 55 = .ok (.iconst 1, 1) := by decide +kernel
theorem dX7_logs_56 : decode cX7_logs 56 = .ok (.isub, 1) := by decide +kernel
theorem dX7_logs_57 : decode cX7_logs 57 = .ok (.iastore, 1) := by decide +kernel
theorem dX7_logs_58 : decode cX7_logs 58 = .ok (.bipush 74, 2) := by decide +kernel
theorem dX7_logs_60 : decode cX7_logs 60 = .ok (.iconst 3, 1) := by decide +kernel
theorem dX7_logs_61 : decode cX7_logs 61 = .ok (.aload_n 0, 1) := by decide +kernel
theorem dX7_logs_62 : decode cX7_logs 62 = .ok (.getfield 7, 3) := by decide +kernel
theorem dX7_logs_65 : decode cX7_logs 65 = .ok (.bipush 73, 2) := by decide +kernel
theorem dX7_logs_67 : decode cX7_logs 67 = .ok (.iaload, 1) := by decide +kernel
theorem dX7_logs_68 : decode cX7_logs 68 = .ok (.imul, 1) := by decide +kernel
theorem dX7_logs_69 : decode cX7_logs 69 = .ok (.iadd, 1) := by decide +kernel
theorem dX7_logs_70 : decode cX7_logs 70 = .ok (.istore_n 3, 1) := by decide +kernel
theorem dX7_logs_71 : decode cX7_logs 71 = .ok (.aload_n 0, 1) := by decide +kernel
theorem dX7_logs_72 : decode cX7_logs 72 = .ok (.getfield 7, 3) := by decide +kernel
theorem dX7_logs_75 : decode cX7_logs 75 = .ok (.iload_n 3, 1) := by decide +kernel
theorem dX7_logs_76 : decode cX7_logs 76 = .ok (.iload_n 1, 1) := by decide +kernel
theorem dX7_logs_77 : decode cX7_logs 77 = .ok (.iastore, 1) := by decide +kernel
theorem dX7_logs_78 : decode cX7_logs 78 = .ok (.aload_n 0, 1) := by decide +kernel
theorem dX7_logs_79 : decode cX7_logs 79 = .ok (.getfield 7, 3) := by decide +kernel
theorem dX7_logs_82 : decode cX7_logs 82 = .ok (.iload_n 3, 1) := by decide +kernel
theorem dX7_logs_83 : decode cX7_logs 83 = .ok (.iconst 1, 1) := by decide +kernel
theorem dX7_logs_84 : decode cX7_logs 84 = .ok (.iadd, 1) := by decide +kernel
theorem dX7_logs_85 : decode cX7_logs 85 = .ok (.iload_n 2, 1) := by decide +kernel
theorem dX7_logs_86 : decode cX7_logs 86 = .ok (.iastore, 1) := by decide +kernel
theorem dX7_logs_87 : decode cX7_logs 87 = .ok (.aload_n 0, 1) := by decide +kernel
theorem dX7_logs_88 : decode cX7_logs 88 = .ok (.getfield 7, 3) := by decide +kernel
theorem dX7_logs_91 : decode cX7_logs 91 = .ok (.iload_n 3, 1) := by decide +kernel
theorem dX7_logs_92 : decode cX7_logs 92 = .ok (.iconst 2, 1) := by decide +kernel
theorem dX7_logs_93 : decode cX7_logs 93 = .ok (.iadd, 1) := by decide +kernel
theorem dX7_logs_94 : decode cX7_logs 94 = .ok (.aload_n 0, 1) := by decide +kernel
theorem dX7_logs_95 : decode cX7_logs 95 = .ok (.getfield 7, 3) := by decide +kernel
theorem dX7_logs_98 : decode cX7_logs 98 = .ok (.bipush 9, 2) := by decide +kernel
theorem dX7_logs_100 : decode cX7_logs 100 = .ok (.iaload, 1) := by decide +kernel
theorem dX7_logs_101 : decode cX7_logs 101 = .ok (.iastore, 1) := by decide +kernel
theorem dX7_logs_102 : decode cX7_logs 102 = .ok (.aload_n 0, 1) := by decide +kernel
theorem dX7_logs_103 : decode cX7_logs 103 = .ok (.getfield 7, 3) := by decide +kernel
theorem dX7_logs_106 : decode cX7_logs 106 = .ok (.bipush 73, 2) := by decide +kernel
theorem dX7_logs_108 : decode cX7_logs 108 = .ok (.dup2, 1) := by decide +kernel
theorem dX7_logs_109 : decode cX7_logs 109 = .ok (.iaload, 1) := by decide +kernel
theorem dX7_logs_110 : decode cX7_logs 110 = .ok (.iconst 1, 1) := by decide +kernel
theorem dX7_logs_111 : decode cX7_logs 111 = .ok (.iadd, 1) := by decide +kernel
theorem dX7_logs_112 : decode cX7_logs 112 = .ok (.iastore, 1) := by decide +kernel
theorem dX7_logs_113 : decode cX7_logs 113 = .ok (.return_, 1) := by decide +kernel
theorem dX7_senses_0 : decode cX7_senses 0 = .ok (.iload_n 1, 1) := by decide +kernel
theorem dX7_senses_1 : decode cX7_senses 1 = .ok (.aload_n 0, 1) := by decide +kernel
theorem dX7_senses_2 : decode cX7_senses 2 = .ok (.getfield 7, 3) := by decide +kernel
theorem dX7_senses_5 : decode cX7_senses 5 = .ok (.bipush 6, 2) := by decide +kernel
theorem dX7_senses_7 : decode cX7_senses 7 = .ok (.iaload, 1) := by decide +kernel
theorem dX7_senses_8 : decode cX7_senses 8 = .ok (.if_icmp .ge 7, 3) := by decide +kernel
theorem dX7_senses_11 : decode cX7_senses 11 = .ok (.iconst 1, 1) := by decide +kernel
theorem dX7_senses_12 : decode cX7_senses 12 = .ok (.goto 4, 3) := by decide +kernel
theorem dX7_senses_15 : decode cX7_senses 15 = .ok (.iconst 0, 1) := by decide +kernel
theorem dX7_senses_16 : decode cX7_senses 16 = .ok (.istore_n 2, 1) := by decide +kernel
theorem dX7_senses_17 : decode cX7_senses 17 = .ok (.aload_n 0, 1) := by decide +kernel
theorem dX7_senses_18 : decode cX7_senses 18 = .ok (.getfield 7, 3) := by decide +kernel
theorem dX7_senses_21 : decode cX7_senses 21 = .ok (.bipush 13, 2) := by decide +kernel
theorem dX7_senses_23 : decode cX7_senses 23 = .ok (.iload_n 2, 1) := by decide +kernel
theorem dX7_senses_24 : decode cX7_senses 24 = .ok (.ifCond .eq 15, 3) := by decide +kernel
theorem dX7_senses_27 : decode cX7_senses 27 = .ok (.aload_n 0, 1) := by decide +kernel
theorem dX7_senses_28 : decode cX7_senses 28 = .ok (.getfield 7, 3) := by decide +kernel
theorem dX7_senses_31 : decode cX7_senses 31 = .ok (.bipush 13, 2) := by decide +kernel
theorem dX7_senses_33 : decode cX7_senses 33 = .ok (.iaload, 1) := by decide +kernel
theorem dX7_senses_34 : decode cX7_senses 34 = .ok (.iconst 1, 1) := by decide +kernel
theorem dX7_senses_35 : decode cX7_senses 35 = .ok (.iadd, 1) := by decide +kernel
theorem dX7_senses_36 : decode cX7_senses 36 = .ok (.goto 4, 3) := by decide +kernel
theorem dX7_senses_39 : decode cX7_senses 39 = .ok (.iconst 0, 1) := by decide +kernel
theorem dX7_senses_40 : decode cX7_senses 40 = .ok (.iastore, 1) := by decide +kernel
theorem dX7_senses_41 : decode cX7_senses 41 = .ok (.aload_n 0, 1) := by decide +kernel
theorem dX7_senses_42 : decode cX7_senses 42 = .ok (.getfield 7, 3) := by decide +kernel
theorem dX7_senses_45 : decode cX7_senses 45 = .ok (.bipush 14, 2) := by decide +kernel
theorem dX7_senses_47 : decode cX7_senses 47 = .ok (.iload_n 2, 1) := by decide +kernel
theorem dX7_senses_48 : decode cX7_senses 48 = .ok (.ifCond .eq 7, 3) := by decide +kernel
theorem dX7_senses_51 : decode cX7_senses 51 = .ok (.iconst 0, 1) := by decide +kernel
theorem dX7_senses_52 : decode cX7_senses 52 = .ok (.goto 12, 3) := by decide +kernel
theorem dX7_senses_55 : decode cX7_senses 55 = .ok (.aload_n 0, 1) := by decide +kernel
theorem dX7_senses_56 : decode cX7_senses 56 = .ok (.getfield 7, 3) := by decide +kernel
theorem dX7_senses_59 : decode cX7_senses 59 = .ok (.bipush 14, 2) := by decide +kernel
theorem dX7_senses_61 : decode cX7_senses 61 = .ok (.iaload, 1) := by decide +kernel
theorem dX7_senses_62 : decode cX7_senses 62 = .ok (.iconst 1, 1) := by decide +kernel
theorem dX7_senses_63 : decode cX7_senses 63 = .ok (.iadd, 1) := by decide +kernel
theorem dX7_senses_64 : decode cX7_senses 64 = .ok (.iastore, 1) := by decide +kernel
theorem dX7_senses_65 : decode cX7_senses 65 = .ok (.aload_n 0, 1) := by decide +kernel
theorem dX7_senses_66 : decode cX7_senses 66 = .ok (.getfield 7, 3) := by decide +kernel
theorem dX7_senses_69 : decode cX7_senses 69 = .ok (.bipush 12, 2) := by decide +kernel
theorem dX7_senses_71 : decode cX7_senses 71 = .ok (.iaload, 1) := by decide +kernel
theorem dX7_senses_72 : decode cX7_senses 72 = .ok (.ifCond .ne 32, 3) := by decide +kernel
theorem dX7_senses_75 : decode cX7_senses 75 = .ok (.aload_n 0, 1) := by decide +kernel
theorem dX7_senses_76 : decode cX7_senses 76 = .ok (.getfield 7, 3) := by decide +kernel
theorem dX7_senses_79 : decode cX7_senses 79 = .ok (.bipush 13, 2) := by decide +kernel
theorem dX7_senses_81 : decode cX7_senses 81 = .ok (.iaload, 1) := by decide +kernel
theorem dX7_senses_82 : decode cX7_senses 82 = .ok (.bipush 20, 2) := by decide +kernel
theorem dX7_senses_84 : decode cX7_senses 84 = .ok (.if_icmp .lt 20, 3) := by decide +kernel
theorem dX7_senses_87 : decode cX7_senses 87 = .ok (.aload_n 0, 1) := by decide +kernel
theorem dX7_senses_88 : decode cX7_senses 88 = .ok (.getfield 7, 3) := by decide +kernel
theorem dX7_senses_91 : decode cX7_senses 91 = .ok (.bipush 12, 2) := by decide +kernel
theorem dX7_senses_93 : decode cX7_senses 93 = .ok (.iconst 1, 1) := by decide +kernel
theorem dX7_senses_94 : decode cX7_senses 94 = .ok (.iastore, 1) := by decide +kernel
theorem dX7_senses_95 : decode cX7_senses 95 = .ok (.aload_n 0, 1) := by decide +kernel
theorem dX7_senses_96 : decode cX7_senses 96 = .ok (.iconst 1, 1) := by decide +kernel
theorem dX7_senses_97 : decode cX7_senses 97 = .ok (.iconst 0, 1) := by decide +kernel
theorem dX7_senses_98 : decode cX7_senses 98 = .ok (.invokevirtual 63, 3) := by decide +kernel
theorem dX7_senses_101 : decode cX7_senses 101 = .ok (.goto 40, 3) := by decide +kernel
theorem dX7_senses_104 : decode cX7_senses 104 = .ok (.aload_n 0, 1) := by decide +kernel
theorem dX7_senses_105 : decode cX7_senses 105 = .ok (.getfield 7, 3) := by decide +kernel
theorem dX7_senses_108 : decode cX7_senses 108 = .ok (.bipush 12, 2) := by decide +kernel
theorem dX7_senses_110 : decode cX7_senses 110 = .ok (.iaload, 1) := by decide +kernel
theorem dX7_senses_111 : decode cX7_senses 111 = .ok (.iconst 1, 1) := by decide +kernel
theorem dX7_senses_112 : decode cX7_senses 112 = .ok (.if_icmp .ne 29, 3) := by decide +kernel
theorem dX7_senses_115 : decode cX7_senses 115 = .ok (.aload_n 0, 1) := by decide +kernel
theorem dX7_senses_116 : decode cX7_senses 116 = .ok (.getfield 7, 3) := by decide +kernel
theorem dX7_senses_119 : decode cX7_senses 119 = .ok (.bipush 14, 2) := by decide +kernel
theorem dX7_senses_121 : decode cX7_senses 121 = .ok (.iaload, 1) := by decide +kernel
theorem dX7_senses_122 : decode cX7_senses 122 = .ok (.bipush 50, 2) := by decide +kernel
theorem dX7_senses_124 : decode cX7_senses 124 = .ok (.if_icmp .lt 17, 3) := by decide +kernel
theorem dX7_senses_127 : decode cX7_senses 127 = .ok (.aload_n 0, 1) := by decide +kernel
theorem dX7_senses_128 : decode cX7_senses 128 = .ok (.getfield 7, 3) := by decide +kernel
theorem dX7_senses_131 : decode cX7_senses 131 = .ok (.bipush 12, 2) := by decide +kernel
theorem dX7_senses_133 : decode cX7_senses 133 = .ok (.iconst 0, 1) := by decide +kernel
theorem dX7_senses_134 : decode cX7_senses 134 = .ok (.iastore, 1) := by decide +kernel
theorem dX7_senses_135 : decode cX7_senses 135 = .ok (.aload_n 0, 1) := by decide +kernel
theorem dX7_senses_136 : decode cX7_senses 136 = .ok (.iconst 2, 1) := by decide +kernel
theorem dX7_senses_137 : decode cX7_senses 137 = .ok (.iconst 0, 1) := by decide +kernel
theorem dX7_senses_138 : decode cX7_senses 138 = .ok (.invokevirtual 63, 3) := by decide +kernel
theorem dX7_senses_141 : decode cX7_senses 141 = .ok (.return_, 1) := by decide +kernel
theorem dX7_knocks_0 : decode cX7_knocks 0 = .ok (.aload_n 0, 1) := by decide +kernel
theorem dX7_knocks_1 : decode cX7_knocks 1 = .ok (.getfield 7, 3) := by decide +kernel
theorem dX7_knocks_4 : decode cX7_knocks 4 = .ok (.iconst 1, 1) := by decide +kernel
theorem dX7_knocks_5 : decode cX7_knocks 5 = .ok (.iaload, 1) := by decide +kernel
theorem dX7_knocks_6 : decode cX7_knocks 6 = .ok (.iconst 3, 1) := by decide +kernel
theorem dX7_knocks_7 : decode cX7_knocks 7 = .ok (.aload_n 0, 1) := by decide +kernel
theorem dX7_knocks_8 : decode cX7_knocks 8 = .ok (.getfield 7, 3) := by decide +kernel
theorem dX7_knocks_11 : decode cX7_knocks 11 = .ok (.iconst 1, 1) := by decide +kernel
theorem dX7_knocks_12 : decode cX7_knocks 12 = .ok (.iaload, 1) := by decide +kernel
theorem dX7_knocks_13 : decode cX7_knocks 13 = .ok (.imul, 1) := by decide +kernel
theorem dX7_knocks_14 : decode cX7_knocks 14 = .ok (.aload_n 0, 1) := by decide +kernel
theorem dX7_knocks_15 : decode cX7_knocks 15 = .ok (.getfield 7, 3) := by decide +kernel
theorem dX7_knocks_18 : decode cX7_knocks 18 = .ok (.iconst 1, 1) := by decide +kernel
theorem dX7_knocks_19 : decode cX7_knocks 19 = .ok (.iaload, 1) := by decide +kernel
theorem dX7_knocks_20 : decode cX7_knocks 20 = .ok (.iload_n 3, 1) := by decide +kernel
theorem dX7_knocks_21 : decode cX7_knocks 21 = .ok (.iload 4, 2) := by decide +kernel
theorem dX7_knocks_23 : decode cX7_knocks 23 = .ok (.isub, 1) := by decide +kernel
theorem dX7_knocks_24 : decode cX7_knocks 24 = .ok (.imul, 1) := by decide +kernel
theorem dX7_knocks_25 : decode cX7_knocks 25 = .ok (.iload 4, 2) := by decide +kernel
theorem dX7_knocks_27 : decode cX7_knocks 27 = .ok (.idiv, 1) := by decide +kernel
theorem dX7_knocks_28 : decode cX7_knocks 28 = .ok (.invokestatic 53, 3) := by decide +kernel
theorem dX7_knocks_31 : decode cX7_knocks 31 = .ok (.iadd, 1) := by decide +kernel
theorem dX7_knocks_32 : decode cX7_knocks 32 = .ok (.istore 5, 2) := by decide +kernel
theorem dX7_knocks_34 : decode cX7_knocks 34 = .ok (.aload_n 0, 1) := by decide +kernel
theorem dX7_knocks_35 : decode cX7_knocks 35 = .ok (.getfield 7, 3) := by decide +kernel
theorem dX7_knocks_38 : decode cX7_knocks 38 = .ok (.iconst 3, 1) := by decide +kernel
theorem dX7_knocks_39 : decode cX7_knocks 39 = .ok (.iaload, 1) := by decide +kernel
theorem dX7_knocks_40 : decode cX7_knocks 40 = .ok (.aload_n 0, 1) := by decide +kernel
theorem dX7_knocks_41 : decode cX7_knocks 41 = .ok (.getfield 7, 3) := by decide +kernel
theorem dX7_knocks_44 : decode cX7_knocks 44 = .ok (.bipush 49, 2) := by decide +kernel
theorem dX7_knocks_46 : decode cX7_knocks 46 = .ok (.iload_n 2, 1) := by decide +kernel
theorem dX7_knocks_47 : decode cX7_knocks 47 = .ok (.iadd, 1) := by decide +kernel
theorem dX7_knocks_48 : decode cX7_knocks 48 = .ok (.iaload, 1) := by decide +kernel
theorem dX7_knocks_49 : decode cX7_knocks 49 = .ok (.isub, 1) := by decide +kernel
theorem dX7_knocks_50 : decode cX7_knocks 50 = .ok (.istore 6, 2) := by decide +kernel
theorem dX7_knocks_52 : decode cX7_knocks 52 = .ok (.aload_n 0, 1) := by decide +kernel
theorem dX7_knocks_53 : decode cX7_knocks 53 = .ok (.getfield 7, 3) := by decide +kernel
theorem dX7_knocks_56 : decode cX7_knocks 56 = .ok (.bipush 17, 2) := by decide +kernel
theorem dX7_knocks_58 : decode cX7_knocks 58 = .ok (.iload_n 1, 1) := by decide +kernel
theorem dX7_knocks_59 : decode cX7_knocks 59 = .ok (.iadd, 1) := by decide +kernel
theorem dX7_knocks_60 : decode cX7_knocks 60 = .ok (.iaload, 1) := by decide +kernel
theorem dX7_knocks_61 : decode cX7_knocks 61 = .ok (.iload 5, 2) := by decide +kernel
theorem dX7_knocks_63 : decode cX7_knocks 63 = .ok (.iadd, 1) := by decide +kernel
theorem dX7_knocks_64 : decode cX7_knocks 64 = .ok (.iload 6, 2) := by decide +kernel
theorem dX7_knocks_66 : decode cX7_knocks 66 = .ok (.invokestatic 53, 3) := by decide +kernel
theorem dX7_knocks_69 : decode cX7_knocks 69 = .ok (.istore 7, 2) := by decide +kernel
theorem dX7_knocks_71 : decode cX7_knocks 71 = .ok (.aload_n 0, 1) := by decide +kernel
theorem dX7_knocks_72 : decode cX7_knocks 72 = .ok (.getfield 7, 3) := by decide +kernel
theorem dX7_knocks_75 : decode cX7_knocks 75 = .ok (.bipush 17, 2) := by decide +kernel
theorem dX7_knocks_77 : decode cX7_knocks 77 = .ok (.iload_n 1, 1) := by decide +kernel
theorem dX7_knocks_78 : decode cX7_knocks 78 = .ok (.iadd, 1) := by decide +kernel
theorem dX7_knocks_79 : decode cX7_knocks 79 = .ok (.iload 7, 2) := by decide +kernel
theorem dX7_knocks_81 : decode cX7_knocks 81 = .ok (.aload_n 0, 1) := by decide +kernel
theorem dX7_knocks_82 : decode cX7_knocks 82 = .ok (.getfield 7, 3) := by decide +kernel
theorem dX7_knocks_85 : decode cX7_knocks 85 = .ok (.bipush 17, 2) := by decide +kernel
theorem dX7_knocks_87 : decode cX7_knocks 87 = .ok (.iload_n 1, 1) := by decide +kernel
theorem dX7_knocks_88 : decode cX7_knocks 88 = .ok (.iadd, 1) := by decide +kernel
theorem dX7_knocks_89 : decode cX7_knocks 89 = .ok (.iaload, 1) := by decide +kernel
theorem dX7_knocks_90 : decode cX7_knocks 90 = .ok (.if_icmp .le 8, 3) := by decide +kernel
theorem dX7_knocks_93 : decode cX7_knocks 93 = .ok (.iload 7, 2) := by decide +kernel
theorem dX7_knocks_95 : decode cX7_knocks 95 = .ok (.goto 12, 3) := by decide +kernel
theorem dX7_knocks_98 : decode cX7_knocks 98 = .ok (.aload_n 0, 1) := by decide +kernel
theorem dX7_knocks_99 : decode cX7_knocks 99 = .ok (.getfield 7, 3) := by decide +kernel
theorem dX7_knocks_102 : decode cX7_knocks 102 = .ok (.bipush 17, 2) := by decide +kernel
theorem dX7_knocks_104 : decode cX7_knocks 104 = .ok (.iload_n 1, 1) := by decide +kernel
theorem dX7_knocks_105 : decode cX7_knocks 105 = .ok (.iadd, 1) := by decide +kernel
theorem dX7_knocks_106 : decode cX7_knocks 106 = .ok (.iaload, 1) := by decide +kernel
theorem dX7_knocks_107 : decode cX7_knocks 107 = .ok (.iastore, 1) := by decide +kernel
theorem dX7_knocks_108 : decode cX7_knocks 108 = .ok (.aload_n 0, 1) := by decide +kernel
theorem dX7_knocks_109 : decode cX7_knocks 109 = .ok (.getfield 7, 3) := by decide +kernel
theorem dX7_knocks_112 : decode cX7_knocks 112 = .ok (.bipush 33, 2) := by decide +kernel
theorem dX7_knocks_114 : decode cX7_knocks 114 = .ok (.iload_n 1, 1) := by decide +kernel
theorem dX7_knocks_115 : decode cX7_knocks 115 = .ok (.iadd, 1) := by decide +kernel
theorem dX7_knocks_116 : decode cX7_knocks 116 = .ok (.iconst 0, 1) := by decide +kernel
theorem dX7_knocks_117 : decode cX7_knocks 117 = .ok (.iastore, 1) := by decide +kernel
theorem dX7_knocks_118 : decode cX7_knocks 118 = .ok (.aload_n 0, 1) := by decide +kernel
theorem dX7_knocks_119 : decode cX7_knocks 119 = .ok (.getfield 7, 3) := by decide +kernel
theorem dX7_knocks_122 : decode cX7_knocks 122 = .ok (.bipush 41, 2) := by decide +kernel
theorem dX7_knocks_124 : decode cX7_knocks 124 = .ok (.iload_n 1, 1) := by decide +kernel
theorem dX7_knocks_125 : decode cX7_knocks 125 = .ok (.iadd, 1) := by decide +kernel
theorem dX7_knocks_126 : decode cX7_knocks 126 = .ok (.dup2, 1) := by decide +kernel
theorem dX7_knocks_127 : decode cX7_knocks 127 = .ok (.iaload, 1) := by decide +kernel
theorem dX7_knocks_128 : decode cX7_knocks 128 = .ok (.iconst 1, 1) := by decide +kernel
theorem dX7_knocks_129 : decode cX7_knocks 129 = .ok (.iadd, 1) := by decide +kernel
theorem dX7_knocks_130 : decode cX7_knocks 130 = .ok (.iastore, 1) := by decide +kernel
theorem dX7_knocks_131 : decode cX7_knocks 131 = .ok (.aload_n 0, 1) := by decide +kernel
theorem dX7_knocks_132 : decode cX7_knocks 132 = .ok (.iconst 0, 1) := by decide +kernel
theorem dX7_knocks_133 : decode cX7_knocks 133 = .ok (.iload_n 1, 1) := by decide +kernel
theorem dX7_knocks_134 : decode cX7_knocks 134 = .ok (.invokevirtual 63, 3) := by decide +kernel
theorem dX7_knocks_137 : decode cX7_knocks 137 = .ok (.return_, 1) := by decide +kernel
theorem dX7_rests_0 : decode cX7_rests 0 = .ok (.aload_n 0, 1) := by decide +kernel
theorem dX7_rests_1 : decode cX7_rests 1 = .ok (.getfield 7, 3) := by decide +kernel
theorem dX7_rests_4 : decode cX7_rests 4 = .ok (.bipush 25, 2) := by decide +kernel
theorem dX7_rests_6 : decode cX7_rests 6 = .ok (.iload_n 1, 1) := by decide +kernel
theorem dX7_rests_7 : decode cX7_rests 7 = .ok (.iadd, 1) := by decide +kernel
theorem dX7_rests_8 : decode cX7_rests 8 = .ok (.dup2, 1) := by decide +kernel
theorem dX7_rests_9 : decode cX7_rests 9 = .ok (.iaload, 1) := by decide +kernel
theorem dX7_rests_10 : decode cX7_rests 10 = .ok (.sipush 256, 3) := by decide +kernel
theorem dX7_rests_13 : decode cX7_rests 13 = .ok (.iload_n 2, 1) := by decide +kernel
theorem dX7_rests_14 : decode cX7_rests 14 = .ok (.imul, 1) := by decide +kernel
theorem dX7_rests_15 : decode cX7_rests 15 = .ok (.aload_n 0, 1) := by decide +kernel
theorem dX7_rests_16 : decode cX7_rests 16 = .ok (.getfield 7, 3) := by decide +kernel
theorem dX7_rests_19 : decode cX7_rests 19 = .ok (.bipush 25, 2) := by decide +kernel
theorem dX7_rests_21 : decode cX7_rests 21 = .ok (.iload_n 1, 1) := by decide +kernel
theorem dX7_rests_22 : decode cX7_rests 22 = .ok (.iadd, 1) := by decide +kernel
theorem dX7_rests_23 : decode cX7_rests 23 = .ok (.iaload, 1) := by decide +kernel
theorem dX7_rests_24 : decode cX7_rests 24 = .ok (.isub, 1) := by decide +kernel
theorem dX7_rests_25 : decode cX7_rests 25 = .ok (.bipush 16, 2) := by decide +kernel
theorem dX7_rests_27 : decode cX7_rests 27 = .ok (.invokestatic 67, 3) := by decide +kernel
theorem dX7_rests_30 : decode cX7_rests 30 = .ok (.iadd, 1) := by decide +kernel
theorem dX7_rests_31 : decode cX7_rests 31 = .ok (.iastore, 1) := by decide +kernel
theorem dX7_rests_32 : decode cX7_rests 32 = .ok (.aload_n 0, 1) := by decide +kernel
theorem dX7_rests_33 : decode cX7_rests 33 = .ok (.getfield 7, 3) := by decide +kernel
theorem dX7_rests_36 : decode cX7_rests 36 = .ok (.bipush 33, 2) := by decide +kernel
theorem dX7_rests_38 : decode cX7_rests 38 = .ok (.iload_n 1, 1) := by decide +kernel
theorem dX7_rests_39 : decode cX7_rests 39 = .ok (.iadd, 1) := by decide +kernel
theorem dX7_rests_40 : decode cX7_rests 40 = .ok (.dup2, 1) := by decide +kernel
theorem dX7_rests_41 : decode cX7_rests 41 = .ok (.iaload, 1) := by decide +kernel
theorem dX7_rests_42 : decode cX7_rests 42 = .ok (.iconst 1, 1) := by decide +kernel
theorem dX7_rests_43 : decode cX7_rests 43 = .ok (.iadd, 1) := by decide +kernel
theorem dX7_rests_44 : decode cX7_rests 44 = .ok (.iastore, 1) := by decide +kernel
theorem dX7_rests_45 : decode cX7_rests 45 = .ok (.aload_n 0, 1) := by decide +kernel
theorem dX7_rests_46 : decode cX7_rests 46 = .ok (.getfield 7, 3) := by decide +kernel
theorem dX7_rests_49 : decode cX7_rests 49 = .ok (.bipush 33, 2) := by decide +kernel
theorem dX7_rests_51 : decode cX7_rests 51 = .ok (.iload_n 1, 1) := by decide +kernel
theorem dX7_rests_52 : decode cX7_rests 52 = .ok (.iadd, 1) := by decide +kernel
theorem dX7_rests_53 : decode cX7_rests 53 = .ok (.iaload, 1) := by decide +kernel
theorem dX7_rests_54 : decode cX7_rests 54 = .ok (.aload_n 0, 1) := by decide +kernel
theorem dX7_rests_55 : decode cX7_rests 55 = .ok (.getfield 7, 3) := by decide +kernel
theorem dX7_rests_58 : decode cX7_rests 58 = .ok (.iconst 2, 1) := by decide +kernel
theorem dX7_rests_59 : decode cX7_rests 59 = .ok (.iaload, 1) := by decide +kernel
theorem dX7_rests_60 : decode cX7_rests 60 = .ok (.if_icmp .lt 42, 3) := by decide +kernel
theorem dX7_rests_63 : decode cX7_rests 63 = .ok (.aload_n 0, 1) := by decide +kernel
theorem dX7_rests_64 : decode cX7_rests 64 = .ok (.getfield 7, 3) := by decide +kernel
theorem dX7_rests_67 : decode cX7_rests 67 = .ok (.bipush 33, 2) := by decide +kernel
theorem dX7_rests_69 : decode cX7_rests 69 = .ok (.iload_n 1, 1) := by decide +kernel
theorem dX7_rests_70 : decode cX7_rests 70 = .ok (.iadd, 1) := by decide +kernel
theorem dX7_rests_71 : decode cX7_rests 71 = .ok (.iconst 0, 1) := by decide +kernel
theorem dX7_rests_72 : decode cX7_rests 72 = .ok (.iastore, 1) := by decide +kernel
theorem dX7_rests_73 : decode cX7_rests 73 = .ok (.aload_n 0, 1) := by decide +kernel
theorem dX7_rests_74 : decode cX7_rests 74 = .ok (.getfield 7, 3) := by decide +kernel
theorem dX7_rests_77 : decode cX7_rests 77 = .ok (.bipush 17, 2) := by decide +kernel
theorem dX7_rests_79 : decode cX7_rests 79 = .ok (.iload_n 1, 1) := by decide +kernel
theorem dX7_rests_80 : decode cX7_rests 80 = .ok (.iadd, 1) := by decide +kernel
theorem dX7_rests_81 : decode cX7_rests 81 = .ok (.dup2, 1) := by decide +kernel
theorem dX7_rests_82 : decode cX7_rests 82 = .ok (.iaload, 1) := by decide +kernel
theorem dX7_rests_83 : decode cX7_rests 83 = .ok (.aload_n 0, 1) := by decide +kernel
theorem dX7_rests_84 : decode cX7_rests 84 = .ok (.getfield 7, 3) := by decide +kernel
theorem dX7_rests_87 : decode cX7_rests 87 = .ok (.bipush 17, 2) := by decide +kernel
theorem dX7_rests_89 : decode cX7_rests 89 = .ok (.iload_n 1, 1) := by decide +kernel
theorem dX7_rests_90 : decode cX7_rests 90 = .ok (.iadd, 1) := by decide +kernel
theorem dX7_rests_91 : decode cX7_rests 91 = .ok (.iaload, 1) := by decide +kernel
theorem dX7_rests_92 : decode cX7_rests 92 = .ok (.ifCond .le 7, 3) := by decide +kernel
theorem dX7_rests_95 : decode cX7_rests 95 = .ok (.iconst 1, 1) := by decide +kernel
theorem dX7_rests_96 : decode cX7_rests 96 = .ok (.goto 4, 3) := by decide +kernel
theorem dX7_rests_99 : decode cX7_rests 99 = .ok (.iconst 0, 1) := by decide +kernel
theorem dX7_rests_100 : decode cX7_rests 100 = .ok (.isub, 1) := by decide +kernel
theorem dX7_rests_101 : decode cX7_rests 101 = .ok (.iastore, 1) := by decide +kernel
theorem dX7_rests_102 : decode cX7_rests 102 = .ok (.return_, 1) := by decide +kernel
theorem dX7_greatest_0 : decode cX7_greatest 0 = .ok (.iconst 0, 1) := by decide +kernel
theorem dX7_greatest_1 : decode cX7_greatest 1 = .ok (.istore_n 1, 1) := by decide +kernel
theorem dX7_greatest_2 : decode cX7_greatest 2 = .ok (.iconst 0, 1) := by decide +kernel
theorem dX7_greatest_3 : decode cX7_greatest 3 = .ok (.istore_n 2, 1) := by decide +kernel
theorem dX7_greatest_4 : decode cX7_greatest 4 = .ok (.iload_n 2, 1) := by decide +kernel
theorem dX7_greatest_5 : decode cX7_greatest 5 = .ok (.aload_n 0, 1) := by decide +kernel
theorem dX7_greatest_6 : decode cX7_greatest 6 = .ok (.getfield 7, 3) := by decide +kernel
theorem dX7_greatest_9 : decode cX7_greatest 9 = .ok (.bipush 8, 2) := by decide +kernel
theorem dX7_greatest_11 : decode cX7_greatest 11 = .ok (.iaload, 1) := by decide +kernel
theorem dX7_greatest_12 : decode cX7_greatest 12 = .ok (.if_icmp .ge 36, 3) := by decide +kernel
theorem dX7_greatest_15 : decode cX7_greatest 15 = .ok (.aload_n 0, 1) := by decide +kernel
theorem dX7_greatest_16 : decode cX7_greatest 16 = .ok (.getfield 7, 3) := by decide +kernel
theorem dX7_greatest_19 : decode cX7_greatest 19 = .ok (.bipush 17, 2) := by decide +kernel
theorem dX7_greatest_21 : decode cX7_greatest 21 = .ok (.iload_n 2, 1) := by decide +kernel
theorem dX7_greatest_22 : decode cX7_greatest 22 = .ok (.iadd, 1) := by decide +kernel
theorem dX7_greatest_23 : decode cX7_greatest 23 = .ok (.iaload, 1) := by decide +kernel
theorem dX7_greatest_24 : decode cX7_greatest 24 = .ok (.iload_n 1, 1) := by decide +kernel
theorem dX7_greatest_25 : decode cX7_greatest 25 = .ok (.if_icmp .le 15, 3) := by decide +kernel
theorem dX7_greatest_28 : decode cX7_greatest 28 = .ok (.aload_n 0, 1) := by decide +kernel
theorem dX7_greatest_29 : decode cX7_greatest 29 = .ok (.getfield 7, 3) := by decide +kernel
theorem dX7_greatest_32 : decode cX7_greatest 32 = .ok (.bipush 17, 2) := by decide +kernel
theorem dX7_greatest_34 : decode cX7_greatest 34 = .ok (.iload_n 2, 1) := by decide +kernel
theorem dX7_greatest_35 : decode cX7_greatest 35 = .ok (.iadd, 1) := by decide +kernel
theorem dX7_greatest_36 : decode cX7_greatest 36 = .ok (.iaload, 1) := by decide +kernel
theorem dX7_greatest_37 : decode cX7_greatest 37 = .ok (.goto 4, 3) := by decide +kernel
theorem dX7_greatest_40 : decode cX7_greatest 40 = .ok (.iload_n 1, 1) := by decide +kernel
theorem dX7_greatest_41 : decode cX7_greatest 41 = .ok (.istore_n 1, 1) := by decide +kernel
theorem dX7_greatest_42 : decode cX7_greatest 42 = .ok (.iinc 2 1, 3) := by decide +kernel
theorem dX7_greatest_45 : decode cX7_greatest 45 = .ok (.goto (-41), 3) := by decide +kernel
theorem dX7_greatest_48 : decode cX7_greatest 48 = .ok (.iload_n 1, 1) := by decide +kernel
theorem dX7_greatest_49 : decode cX7_greatest 49 = .ok (.ireturn, 1) := by decide +kernel
theorem dX7_evens_0 : decode cX7_evens 0 = .ok (.aload_n 0, 1) := by decide +kernel
theorem dX7_evens_1 : decode cX7_evens 1 = .ok (.invokevirtual 70, 3) := by decide +kernel
theorem dX7_evens_4 : decode cX7_evens 4 = .ok (.aload_n 0, 1) := by decide +kernel
theorem dX7_evens_5 : decode cX7_evens 5 = .ok (.getfield 7, 3) := by decide +kernel
theorem dX7_evens_8 : decode cX7_evens 8 = .ok (.iconst 4, 1) := by decide +kernel
theorem dX7_evens_9 : decode cX7_evens 9 = .ok (.iaload, 1) := by decide +kernel
theorem dX7_evens_10 : decode cX7_evens 10 = .ok (.isub, 1) := by decide +kernel
theorem dX7_evens_11 : decode cX7_evens 11 = .ok (.istore_n 1, 1) := by decide +kernel
theorem dX7_evens_12 : decode cX7_evens 12 = .ok (.iconst 0, 1) := by decide +kernel
theorem dX7_evens_13 : decode cX7_evens 13 = .ok (.istore_n 2, 1) := by decide +kernel
theorem dX7_evens_14 : decode cX7_evens 14 = .ok (.iload_n 2, 1) := by decide +kernel
theorem dX7_evens_15 : decode cX7_evens 15 = .ok (.aload_n 0, 1) := by decide +kernel
theorem dX7_evens_16 : decode cX7_evens 16 = .ok (.getfield 7, 3) := by decide +kernel
theorem dX7_evens_19 : decode cX7_evens 19 = .ok (.bipush 8, 2) := by decide +kernel
theorem dX7_evens_21 : decode cX7_evens 21 = .ok (.iaload, 1) := by decide +kernel
theorem dX7_evens_22 : decode cX7_evens 22 = .ok (.if_icmp .ge 44, 3) := by decide +kernel
theorem dX7_evens_25 : decode cX7_evens 25 = .ok (.aload_n 0, 1) := by decide +kernel
theorem dX7_evens_26 : decode cX7_evens 26 = .ok (.getfield 7, 3) := by decide +kernel
theorem dX7_evens_29 : decode cX7_evens 29 = .ok (.bipush 17, 2) := by decide +kernel
theorem dX7_evens_31 : decode cX7_evens 31 = .ok (.iload_n 2, 1) := by decide +kernel
theorem dX7_evens_32 : decode cX7_evens 32 = .ok (.iadd, 1) := by decide +kernel
theorem dX7_evens_33 : decode cX7_evens 33 = .ok (.aload_n 0, 1) := by decide +kernel
theorem dX7_evens_34 : decode cX7_evens 34 = .ok (.getfield 7, 3) := by decide +kernel
theorem dX7_evens_37 : decode cX7_evens 37 = .ok (.bipush 17, 2) := by decide +kernel
theorem dX7_evens_39 : decode cX7_evens 39 = .ok (.iload_n 2, 1) := by decide +kernel
theorem dX7_evens_40 : decode cX7_evens 40 = .ok (.iadd, 1) := by decide +kernel
theorem dX7_evens_41 : decode cX7_evens 41 = .ok (.iaload, 1) := by decide +kernel
theorem dX7_evens_42 : decode cX7_evens 42 = .ok (.iload_n 1, 1) := by decide +kernel
theorem dX7_evens_43 : decode cX7_evens 43 = .ok (.if_icmp .ge 7, 3) := by decide +kernel
theorem dX7_evens_46 : decode cX7_evens 46 = .ok (.iload_n 1, 1) := by decide +kernel
theorem dX7_evens_47 : decode cX7_evens 47 = .ok (.goto 12, 3) := by decide +kernel
theorem dX7_evens_50 : decode cX7_evens 50 = .ok (.aload_n 0, 1) := by decide +kernel
theorem dX7_evens_51 : decode cX7_evens 51 = .ok (.getfield 7, 3) := by decide +kernel
theorem dX7_evens_54 : decode cX7_evens 54 = .ok (.bipush 17, 2) := by decide +kernel
theorem dX7_evens_56 : decode cX7_evens 56 = .ok (.iload_n 2, 1) := by decide +kernel
theorem dX7_evens_57 : decode cX7_evens 57 = .ok (.iadd, 1) := by decide +kernel
theorem dX7_evens_58 : decode cX7_evens 58 = .ok (.iaload, 1) := by decide +kernel
theorem dX7_evens_59 : decode cX7_evens 59 = .ok (.iastore, 1) := by decide +kernel
theorem dX7_evens_60 : decode cX7_evens 60 = .ok (.iinc 2 1, 3) := by decide +kernel
theorem dX7_evens_63 : decode cX7_evens 63 = .ok (.goto (-49), 3) := by decide +kernel
theorem dX7_evens_66 : decode cX7_evens 66 = .ok (.return_, 1) := by decide +kernel
theorem dX7_learns_0 : decode cX7_learns 0 = .ok (.iconst 0, 1) := by decide +kernel
theorem dX7_learns_1 : decode cX7_learns 1 = .ok (.istore_n 2, 1) := by decide +kernel
theorem dX7_learns_2 : decode cX7_learns 2 = .ok (.iconst 0, 1) := by decide +kernel
theorem dX7_learns_3 : decode cX7_learns 3 = .ok (.istore_n 3, 1) := by decide +kernel
theorem dX7_learns_4 : decode cX7_learns 4 = .ok (.iload_n 3, 1) := by decide +kernel
theorem dX7_learns_5 : decode cX7_learns 5 = .ok (.aload_n 0, 1) := by decide +kernel
theorem dX7_learns_6 : decode cX7_learns 6 = .ok (.getfield 7, 3) := by decide +kernel
theorem dX7_learns_9 : decode cX7_learns 9 = .ok (.bipush 8, 2) := by decide +kernel
theorem dX7_learns_11 : decode cX7_learns 11 = .ok (.iaload, 1) := by decide +kernel
theorem dX7_learns_12 : decode cX7_learns 12 = .ok (.if_icmp .ge 21, 3) := by decide +kernel
theorem dX7_learns_15 : decode cX7_learns 15 = .ok (.iload_n 2, 1) := by decide +kernel
theorem dX7_learns_16 : decode cX7_learns 16 = .ok (.aload_n 0, 1) := by decide +kernel
theorem dX7_learns_17 : decode cX7_learns 17 = .ok (.getfield 7, 3) := by decide +kernel
theorem dX7_learns_20 : decode cX7_learns 20 = .ok (.bipush 17, 2) := by decide +kernel
theorem dX7_learns_22 : decode cX7_learns 22 = .ok (.iload_n 3, 1) := by decide +kernel
theorem dX7_learns_23 : decode cX7_learns 23 = .ok (.iadd, 1) := by decide +kernel
theorem dX7_learns_24 : decode cX7_learns 24 = .ok (.iaload, 1) := by decide +kernel
theorem dX7_learns_25 : decode cX7_learns 25 = .ok (.iadd, 1) := by decide +kernel
theorem dX7_learns_26 : decode cX7_learns 26 = .ok (.istore_n 2, 1) := by decide +kernel
theorem dX7_learns_27 : decode cX7_learns 27 = .ok (.iinc 3 1, 3) := by decide +kernel
theorem dX7_learns_30 : decode cX7_learns 30 = .ok (.goto (-26), 3) := by decide +kernel
theorem dX7_learns_33 : decode cX7_learns 33 = .ok (.iload_n 2, 1) := by decide +kernel
theorem dX7_learns_34 : decode cX7_learns 34 = .ok (.aload_n 0, 1) := by decide +kernel
theorem dX7_learns_35 : decode cX7_learns 35 = .ok (.getfield 7, 3) := by decide +kernel
theorem dX7_learns_38 : decode cX7_learns 38 = .ok (.bipush 8, 2) := by decide +kernel
theorem dX7_learns_40 : decode cX7_learns 40 = .ok (.iaload, 1) := by decide +kernel
theorem dX7_learns_41 : decode cX7_learns 41 = .ok (.idiv, 1) := by decide +kernel
theorem dX7_learns_42 : decode cX7_learns 42 = .ok (.istore_n 3, 1) := by decide +kernel
theorem dX7_learns_43 : decode cX7_learns 43 = .ok (.bipush 49, 2) := by decide +kernel
theorem dX7_learns_45 : decode cX7_learns 45 = .ok (.iload_n 1, 1) := by decide +kernel
theorem dX7_learns_46 : decode cX7_learns 46 = .ok (.iadd, 1) := by decide +kernel
theorem dX7_learns_47 : decode cX7_learns 47 = .ok (.istore 4, 2) := by decide +kernel
theorem dX7_learns_49 : decode cX7_learns 49 = .ok (.iload_n 3, 1) := by decide +kernel
theorem dX7_learns_50 : decode cX7_learns 50 = .ok (.bipush 20, 2) := by decide +kernel
theorem dX7_learns_52 : decode cX7_learns 52 = .ok (.if_icmp .le 87, 3) := by decide +kernel
theorem dX7_learns_55 : decode cX7_learns 55 = .ok (.aload_n 0, 1) := by decide +kernel
theorem dX7_learns_56 : decode cX7_learns 56 = .ok (.getfield 7, 3) := by decide +kernel
theorem dX7_learns_59 : decode cX7_learns 59 = .ok (.iload 4, 2) := by decide +kernel
theorem dX7_learns_61 : decode cX7_learns 61 = .ok (.iaload, 1) := by decide +kernel
theorem dX7_learns_62 : decode cX7_learns 62 = .ok (.bipush 100, 2) := by decide +kernel
theorem dX7_learns_64 : decode cX7_learns 64 = .ok (.if_icmp .ge 75, 3) := by decide +kernel
theorem dX7_learns_67 : decode cX7_learns 67 = .ok (.aload_n 0, 1) := by decide +kernel
theorem dX7_learns_68 : decode cX7_learns 68 = .ok (.getfield 7, 3) := by decide +kernel
theorem dX7_learns_71 : decode cX7_learns 71 = .ok (.iload 4, 2) := by decide +kernel
theorem dX7_learns_73 : decode cX7_learns 73 = .ok (.dup2, 1) := by decide +kernel
theorem dX7_learns_74 : decode cX7_learns 74 = .ok (.iaload, 1) := by decide +kernel
theorem dX7_learns_75 : decode cX7_learns 75 = .ok (.iconst 1, 1) := by decide +kernel
theorem dX7_learns_76 : decode cX7_learns 76 = .ok (.iadd, 1) := by decide +kernel
theorem dX7_learns_77 : decode cX7_learns 77 = .ok (.iastore, 1) := by decide +kernel
theorem dX7_learns_78 : decode cX7_learns 78 = .ok (.iconst 0, 1) := by decide +kernel
theorem dX7_learns_79 : decode cX7_learns 79 = .ok (.istore 5, 2) := by decide +kernel
theorem dX7_learns_81 : decode cX7_learns 81 = .ok (.iload 5, 2) := by decide +kernel
theorem dX7_learns_83 : decode cX7_learns 83 = .ok (.aload_n 0, 1) := by decide +kernel
theorem dX7_learns_84 : decode cX7_learns 84 = .ok (.getfield 7, 3) := by decide +kernel
theorem dX7_learns_87 : decode cX7_learns 87 = .ok (.bipush 8, 2) := by decide +kernel
theorem dX7_learns_89 : decode cX7_learns 89 = .ok (.iaload, 1) := by decide +kernel
theorem dX7_learns_90 : decode cX7_learns 90 = .ok (.if_icmp .ge 40, 3) := by decide +kernel
theorem dX7_learns_93 : decode cX7_learns 93 = .ok (.aload_n 0, 1) := by decide +kernel
theorem dX7_learns_94 : decode cX7_learns 94 = .ok (.getfield 7, 3) := by decide +kernel
theorem dX7_learns_97 : decode cX7_learns 97 = .ok (.bipush 17, 2) := by decide +kernel
theorem dX7_learns_99 : decode cX7_learns 99 = .ok (.iload 5, 2) := by decide +kernel
theorem dX7_learns_101 : decode cX7_learns 101 = .ok (.iadd, 1) := by decide +kernel
theorem dX7_learns_102 : decode cX7_learns 102 = .ok (.dup2, 1) := by decide +kernel
theorem dX7_learns_103 : decode cX7_learns 103 = .ok (.iaload, 1) := by decide +kernel
theorem dX7_learns_104 : decode cX7_learns 104 = .ok (.aload_n 0, 1) := by decide +kernel
theorem dX7_learns_105 : decode cX7_learns 105 = .ok (.getfield 7, 3) := by decide +kernel
theorem dX7_learns_108 : decode cX7_learns 108 = .ok (.bipush 17, 2) := by decide +kernel
theorem dX7_learns_110 : decode cX7_learns 110 = .ok (.iload 5, 2) := by decide +kernel
theorem dX7_learns_112 : decode cX7_learns 112 = .ok (.iadd, 1) := by decide +kernel
theorem dX7_learns_113 : decode cX7_learns 113 = .ok (.iaload, 1) := by decide +kernel
theorem dX7_learns_114 : decode cX7_learns 114 = .ok (.ifCond .le 7, 3) := by decide +kernel
theorem dX7_learns_117 : decode cX7_learns 117 = .ok (.iconst 1, 1) := by decide +kernel
theorem dX7_learns_118 : decode cX7_learns 118 = .ok (.goto 4, 3) := by decide +kernel
theorem dX7_learns_121 : decode cX7_learns 121 = .ok (.iconst 0, 1) := by decide +kernel
theorem dX7_learns_122 : decode cX7_learns 122 = .ok (.isub, 1) := by decide +kernel
theorem dX7_learns_123 : decode cX7_learns 123 = .ok (.iastore, 1) := by decide +kernel
theorem dX7_learns_124 : decode cX7_learns 124 = .ok (.iinc 5 1, 3) := by decide +kernel
theorem dX7_learns_127 : decode cX7_learns 127 = .ok (.goto (-46), 3) := by decide +kernel
theorem dX7_learns_130 : decode cX7_learns 130 = .ok (.aload_n 0, 1) := by decide +kernel
theorem dX7_learns_131 : decode cX7_learns 131 = .ok (.iconst 3, 1) := by decide +kernel
theorem dX7_learns_132 : decode cX7_learns 132 = .ok (.iload_n 1, 1) := by decide +kernel
theorem dX7_learns_133 : decode cX7_learns 133 = .ok (.invokevirtual 63, 3) := by decide +kernel
theorem dX7_learns_136 : decode cX7_learns 136 = .ok (.goto 35, 3) := by decide +kernel
theorem dX7_learns_139 : decode cX7_learns 139 = .ok (.iload_n 3, 1) := by decide +kernel
theorem dX7_learns_140 : decode cX7_learns 140 = .ok (.iconst 5, 1) := by decide +kernel
theorem dX7_learns_141 : decode cX7_learns 141 = .ok (.if_icmp .ge 30, 3) := by decide +kernel
theorem dX7_learns_144 : decode cX7_learns 144 = .ok (.aload_n 0, 1) := by decide +kernel
theorem dX7_learns_145 : decode cX7_learns 145 = .ok (.getfield 7, 3) := by decide +kernel
theorem dX7_learns_148 : decode cX7_learns 148 = .ok (.iload 4, 2) := by decide +kernel
theorem dX7_learns_150 : decode cX7_learns 150 = .ok (.iaload, 1) := by decide +kernel
theorem dX7_learns_151 : decode cX7_learns 151 = .ok (.ifCond .le 20, 3) := by decide +kernel
theorem dX7_learns_154 : decode cX7_learns 154 = .ok (.aload_n 0, 1) := by decide +kernel
theorem dX7_learns_155 : decode cX7_learns 155 = .ok (.getfield 7, 3) := by decide +kernel
theorem dX7_learns_158 : decode cX7_learns 158 = .ok (.iload 4, 2) := by decide +kernel
theorem dX7_learns_160 : decode cX7_learns 160 = .ok (.dup2, 1) := by decide +kernel
theorem dX7_learns_161 : decode cX7_learns 161 = .ok (.iaload, 1) := by decide +kernel
theorem dX7_learns_162 : decode cX7_learns 162 = .ok (.iconst 1, 1) := by decide +kernel
theorem dX7_learns_163 : decode cX7_learns 163 = .ok (.isub, 1) := by decide +kernel
theorem dX7_learns_164 : decode cX7_learns 164 = .ok (.iastore, 1) := by decide +kernel
theorem dX7_learns_165 : decode cX7_learns 165 = .ok (.aload_n 0, 1) := by decide +kernel
theorem dX7_learns_166 : decode cX7_learns 166 = .ok (.iconst 4, 1) := by decide +kernel
theorem dX7_learns_167 : decode cX7_learns 167 = .ok (.iload_n 1, 1) := by decide +kernel
theorem dX7_learns_168 : decode cX7_learns 168 = .ok (.invokevirtual 63, 3) := by decide +kernel
theorem dX7_learns_171 : decode cX7_learns 171 = .ok (.return_, 1) := by decide +kernel
theorem dX7_treats_0 : decode cX7_treats 0 = .ok (.aload_n 0, 1) := by decide +kernel
theorem dX7_treats_1 : decode cX7_treats 1 = .ok (.getfield 7, 3) := by decide +kernel
theorem dX7_treats_4 : decode cX7_treats 4 = .ok (.bipush 9, 2) := by decide +kernel
theorem dX7_treats_6 : decode cX7_treats 6 = .ok (.iaload, 1) := by decide +kernel
theorem dX7_treats_7 : decode cX7_treats 7 = .ok (.aload_n 0, 1) := by decide +kernel
theorem dX7_treats_8 : decode cX7_treats 8 = .ok (.getfield 7, 3) := by decide +kernel
theorem dX7_treats_11 : decode cX7_treats 11 = .ok (.bipush 8, 2) := by decide +kernel
theorem dX7_treats_13 : decode cX7_treats 13 = .ok (.iaload, 1) := by decide +kernel
theorem dX7_treats_14 : decode cX7_treats 14 = .ok (.irem, 1) := by decide +kernel
theorem dX7_treats_15 : decode cX7_treats 15 = .ok (.istore 4, 2) := by decide +kernel
theorem dX7_treats_17 : decode cX7_treats 17 = .ok (.iload_n 1, 1) := by decide +kernel
theorem dX7_treats_18 : decode cX7_treats 18 = .ok (.iload_n 2, 1) := by decide +kernel
theorem dX7_treats_19 : decode cX7_treats 19 = .ok (.invokestatic 57, 3) := by decide +kernel
theorem dX7_treats_22 : decode cX7_treats 22 = .ok (.istore 5, 2) := by decide +kernel
theorem dX7_treats_24 : decode cX7_treats 24 = .ok (.iconst 2, 1) := by decide +kernel
theorem dX7_treats_25 : decode cX7_treats 25 = .ok (.istore 6, 2) := by decide +kernel
theorem dX7_treats_27 : decode cX7_treats 27 = .ok (.aload_n 0, 1) := by decide +kernel
theorem dX7_treats_28 : decode cX7_treats 28 = .ok (.iload_n 3, 1) := by decide +kernel
theorem dX7_treats_29 : decode cX7_treats 29 = .ok (.invokevirtual 74, 3) := by decide +kernel
theorem dX7_treats_32 : decode cX7_treats 32 = .ok (.aload_n 0, 1) := by decide +kernel
theorem dX7_treats_33 : decode cX7_treats 33 = .ok (.getfield 7, 3) := by decide +kernel
theorem dX7_treats_36 : decode cX7_treats 36 = .ok (.bipush 15, 2) := by decide +kernel
theorem dX7_treats_38 : decode cX7_treats 38 = .ok (.iload 5, 2) := by decide +kernel
theorem dX7_treats_40 : decode cX7_treats 40 = .ok (.aload_n 0, 1) := by decide +kernel
theorem dX7_treats_41 : decode cX7_treats 41 = .ok (.getfield 7, 3) := by decide +kernel
theorem dX7_treats_44 : decode cX7_treats 44 = .ok (.bipush 16, 2) := by decide +kernel
theorem dX7_treats_46 : decode cX7_treats 46 = .ok (.iaload, 1) := by decide +kernel
theorem dX7_treats_47 : decode cX7_treats 47 = .ok (.if_icmp .ne 15, 3) := by decide +kernel
theorem dX7_treats_50 : decode cX7_treats 50 = .ok (.aload_n 0, 1) := by decide +kernel
theorem dX7_treats_51 : decode cX7_treats 51 = .ok (.getfield 7, 3) := by decide +kernel
theorem dX7_treats_54 : decode cX7_treats 54 = .ok (.bipush 15, 2) := by decide +kernel
theorem dX7_treats_56 : decode cX7_treats 56 = .ok (.iaload, 1) := by decide +kernel
theorem dX7_treats_57 : decode cX7_treats 57 = .ok (.iconst 1, 1) := by decide +kernel
theorem dX7_treats_58 : decode cX7_treats 58 = .ok (.iadd, 1) := by decide +kernel
theorem dX7_treats_59 : decode cX7_treats 59 = .ok (.goto 4, 3) := by decide +kernel
theorem dX7_treats_62 : decode cX7_treats 62 = .ok (.iconst 0, 1) := by decide +kernel
theorem dX7_treats_63 : decode cX7_treats 63 = .ok (.iastore, 1) := by decide +kernel
theorem dX7_treats_64 : decode cX7_treats 64 = .ok (.aload_n 0, 1) := by decide +kernel
theorem dX7_treats_65 : decode cX7_treats 65 = .ok (.getfield 7, 3) := by decide +kernel
theorem dX7_treats_68 : decode cX7_treats 68 = .ok (.bipush 16, 2) := by decide +kernel
theorem dX7_treats_70 : decode cX7_treats 70 = .ok (.iload 5, 2) := by decide +kernel
theorem dX7_treats_72 : decode cX7_treats 72 = .ok (.iastore, 1) := by decide +kernel
theorem dX7_treats_73 : decode cX7_treats 73 = .ok (.aload_n 0, 1) := by decide +kernel
theorem dX7_treats_74 : decode cX7_treats 74 = .ok (.getfield 7, 3) := by decide +kernel
theorem dX7_treats_77 : decode cX7_treats 77 = .ok (.bipush 12, 2) := by decide +kernel
theorem dX7_treats_79 : decode cX7_treats 79 = .ok (.iaload, 1) := by decide +kernel
theorem dX7_treats_80 : decode cX7_treats 80 = .ok (.ifCond .ne 95, 3) := by decide +kernel
theorem dX7_treats_83 : decode cX7_treats 83 = .ok (.aload_n 0, 1) := by decide +kernel
theorem dX7_treats_84 : decode cX7_treats 84 = .ok (.iload 4, 2) := by decide +kernel
theorem dX7_treats_86 : decode cX7_treats 86 = .ok (.invokevirtual 77, 3) := by decide +kernel
theorem dX7_treats_89 : decode cX7_treats 89 = .ok (.istore 7, 2) := by decide +kernel
theorem dX7_treats_91 : decode cX7_treats 91 = .ok (.iload_n 3, 1) := by decide +kernel
theorem dX7_treats_92 : decode cX7_treats 92 = .ok (.iload 7, 2) := by decide +kernel
theorem dX7_treats_94 : decode cX7_treats 94 = .ok (.if_icmp .le 7, 3) := by decide +kernel
theorem dX7_treats_97 : decode cX7_treats 97 = .ok (.iconst 1, 1) := by decide +kernel
theorem dX7_treats_98 : decode cX7_treats 98 = .ok (.goto 4, 3) := by decide +kernel
theorem dX7_treats_101 : decode cX7_treats 101 = .ok (.iconst 0, 1) := by decide +kernel
theorem dX7_treats_102 : decode cX7_treats 102 = .ok (.istore 6, 2) := by decide +kernel
theorem dX7_treats_104 : decode cX7_treats 104 = .ok (.iload 6, 2) := by decide +kernel
theorem dX7_treats_106 : decode cX7_treats 106 = .ok (.iconst 1, 1) := by decide +kernel
theorem dX7_treats_107 : decode cX7_treats 107 = .ok (.if_icmp .ne 17, 3) := by decide +kernel
theorem dX7_treats_110 : decode cX7_treats 110 = .ok (.aload_n 0, 1) := by decide +kernel
theorem dX7_treats_111 : decode cX7_treats 111 = .ok (.iload 4, 2) := by decide +kernel
theorem dX7_treats_113 : decode cX7_treats 113 = .ok (.iload 5, 2) := by decide +kernel
theorem dX7_treats_115 : decode cX7_treats 115 = .ok (.iload_n 3, 1) := by decide +kernel
theorem dX7_treats_116 : decode cX7_treats 116 = .ok (.iload 7, 2) := by decide +kernel
theorem dX7_treats_118 : decode cX7_treats 118 = .ok (.invokevirtual 81, 3) := by decide +kernel
theorem dX7_treats_121 : decode cX7_treats 121 = .ok (.goto 10, 3) := by decide +kernel
theorem dX7_treats_124 : decode cX7_treats 124 = .ok (.aload_n 0, 1) := by decide +kernel
theorem dX7_treats_125 : decode cX7_treats 125 = .ok (.iload 4, 2) := by decide +kernel
theorem dX7_treats_127 : decode cX7_treats 127 = .ok (.iload_n 3, 1) := by decide +kernel
theorem dX7_treats_128 : decode cX7_treats 128 = .ok (.invokevirtual 85, 3) := by decide +kernel
theorem dX7_treats_131 : decode cX7_treats 131 = .ok (.aload_n 0, 1) := by decide +kernel
theorem dX7_treats_132 : decode cX7_treats 132 = .ok (.invokevirtual 88, 3) := by decide +kernel
theorem dX7_treats_135 : decode cX7_treats 135 = .ok (.aload_n 0, 1) := by decide +kernel
theorem dX7_treats_136 : decode cX7_treats 136 = .ok (.getfield 7, 3) := by decide +kernel
theorem dX7_treats_139 : decode cX7_treats 139 = .ok (.bipush 15, 2) := by decide +kernel
theorem dX7_treats_141 : decode cX7_treats 141 = .ok (.iaload, 1) := by decide +kernel
theorem dX7_treats_142 : decode cX7_treats 142 = .ok (.aload_n 0, 1) := by decide +kernel
theorem dX7_treats_143 : decode cX7_treats 143 = .ok (.getfield 7, 3) := by decide +kernel
theorem dX7_treats_146 : decode cX7_treats 146 = .ok (.iconst 5, 1) := by decide +kernel
theorem dX7_treats_147 : decode cX7_treats 147 = .ok (.iaload, 1) := by decide +kernel
theorem dX7_treats_148 : decode cX7_treats 148 = .ok (.if_icmp .lt 27, 3) := by decide +kernel
theorem dX7_treats_151 : decode cX7_treats 151 = .ok (.aload_n 0, 1) := by decide +kernel
theorem dX7_treats_152 : decode cX7_treats 152 = .ok (.getfield 7, 3) := by decide +kernel
theorem dX7_treats_155 : decode cX7_treats 155 = .ok (.bipush 15, 2) := by decide +kernel
theorem dX7_treats_157 : decode cX7_treats 157 = .ok (.iaload, 1) := by decide +kernel
theorem dX7_treats_158 : decode cX7_treats 158 = .ok (.aload_n 0, 1) := by decide +kernel
theorem dX7_treats_159 : decode cX7_treats 159 = .ok (.getfield 7, 3) := by decide +kernel
theorem dX7_treats_162 : decode cX7_treats 162 = .ok (.bipush 8, 2) := by decide +kernel
theorem dX7_treats_164 : decode cX7_treats 164 = .ok (.iaload, 1) := by decide +kernel
theorem dX7_treats_165 : decode cX7_treats 165 = .ok (.irem, 1) := by decide +kernel
theorem dX7_treats_166 : decode cX7_treats 166 = .ok (.ifCond .ne 9, 3) := by decide +kernel
theorem dX7_treats_169 : decode cX7_treats 169 = .ok (.aload_n 0, 1) := by decide +kernel
theorem dX7_treats_170 : decode cX7_treats 170 = .ok (.iload 5, 2) := by decide +kernel
theorem dX7_treats_172 : decode cX7_treats 172 = .ok (.invokevirtual 91, 3) := by decide +kernel
theorem dX7_treats_175 : decode cX7_treats 175 = .ok (.aload_n 0, 1) := by decide +kernel
theorem dX7_treats_176 : decode cX7_treats 176 = .ok (.getfield 7, 3) := by decide +kernel
theorem dX7_treats_179 : decode cX7_treats 179 = .ok (.bipush 9, 2) := by decide +kernel
theorem dX7_treats_181 : decode cX7_treats 181 = .ok (.dup2, 1) := by decide +kernel
theorem dX7_treats_182 : decode cX7_treats 182 = .ok (.iaload, 1) := by decide +kernel
theorem dX7_treats_183 : decode cX7_treats 183 = .ok (.iconst 1, 1) := by decide +kernel
theorem dX7_treats_184 : decode cX7_treats 184 = .ok (.iadd, 1) := by decide +kernel
theorem dX7_treats_185 : decode cX7_treats 185 = .ok (.iastore, 1) := by decide +kernel
theorem dX7_treats_186 : decode cX7_treats 186 = .ok (.iload 6, 2) := by decide +kernel
theorem dX7_treats_188 : decode cX7_treats 188 = .ok (.ireturn, 1) := by decide +kernel
theorem dX7_knockLimit_0 : decode cX7_knockLimit 0 = .ok (.sipush 150, 3) := by decide +kernel
theorem dX7_knockLimit_3 : decode cX7_knockLimit 3 = .ok (.iload_n 0, 1) := by decide +kernel
theorem dX7_knockLimit_4 : decode cX7_knockLimit 4 = .ok (.bipush 60, 2) := by decide +kernel
theorem dX7_knockLimit_6 : decode cX7_knockLimit 6 = .ok (.idiv, 1) := by decide +kernel
theorem dX7_knockLimit_7 : decode cX7_knockLimit 7 = .ok (.iadd, 1) := by decide +kernel
theorem dX7_knockLimit_8 : decode cX7_knockLimit 8 = .ok (.iload_n 1, 1) := by decide +kernel
theorem dX7_knockLimit_9 : decode cX7_knockLimit 9 = .ok (.iconst 3, 1) := by decide +kernel
theorem dX7_knockLimit_10 : decode cX7_knockLimit 10 = .ok (.imul, 1) := by decide +kernel
theorem dX7_knockLimit_11 : decode cX7_knockLimit 11 = .ok (.iconst 2, 1) := by decide +kernel
theorem dX7_knockLimit_12 : decode cX7_knockLimit 12 = .ok (.idiv, 1) := by decide +kernel
theorem dX7_knockLimit_13 : decode cX7_knockLimit 13 = .ok (.isub, 1) := by decide +kernel
theorem dX7_knockLimit_14 : decode cX7_knockLimit 14 = .ok (.iload_n 2, 1) := by decide +kernel
theorem dX7_knockLimit_15 : decode cX7_knockLimit 15 = .ok (.bipush 95, 2) := by decide +kernel
theorem dX7_knockLimit_17 : decode cX7_knockLimit 17 = .ok (.isub, 1) := by decide +kernel
theorem dX7_knockLimit_18 : decode cX7_knockLimit 18 = .ok (.bipush 8, 2) := by decide +kernel
theorem dX7_knockLimit_20 : decode cX7_knockLimit 20 = .ok (.imul, 1) := by decide +kernel
theorem dX7_knockLimit_21 : decode cX7_knockLimit 21 = .ok (.iadd, 1) := by decide +kernel
theorem dX7_knockLimit_22 : decode cX7_knockLimit 22 = .ok (.ireturn, 1) := by decide +kernel
theorem dX7_fires_0 : decode cX7_fires 0 = .ok (.aload_n 0, 1) := by decide +kernel
theorem dX7_fires_1 : decode cX7_fires 1 = .ok (.getfield 7, 3) := by decide +kernel
theorem dX7_fires_4 : decode cX7_fires 4 = .ok (.bipush 10, 2) := by decide +kernel
theorem dX7_fires_6 : decode cX7_fires 6 = .ok (.ldc2_w 94, 3) := by decide +kernel
theorem dX7_fires_9 : decode cX7_fires 9 = .ok (.aload_n 0, 1) := by decide +kernel
theorem dX7_fires_10 : decode cX7_fires 10 = .ok (.getfield 7, 3) := by decide +kernel
theorem dX7_fires_13 : decode cX7_fires 13 = .ok (.bipush 10, 2) := by decide +kernel
theorem dX7_fires_15 : decode cX7_fires 15 = .ok (.iaload, 1) := by decide +kernel
theorem dX7_fires_16 : decode cX7_fires 16 = .ok (.i2l, 1) := by decide +kernel
theorem dX7_fires_17 : decode cX7_fires 17 = .ok (.lmul, 1) := by decide +kernel
theorem dX7_fires_18 : decode cX7_fires 18 = .ok (.ldc2_w 96, 3) := by decide +kernel
theorem dX7_fires_21 : decode cX7_fires 21 = .ok (.ladd, 1) := by decide +kernel
theorem dX7_fires_22 : decode cX7_fires 22 = .ok (.ldc2_w 98, 3) := by decide +kernel
theorem dX7_fires_25 : decode cX7_fires 25 = .ok (.lrem, 1) := by decide +kernel
theorem dX7_fires_26 : decode cX7_fires 26 = .ok (.l2i, 1) := by decide +kernel
theorem dX7_fires_27 : decode cX7_fires 27 = .ok (.iastore, 1) := by decide +kernel
theorem dX7_fires_28 : decode cX7_fires 28 = .ok (.aload_n 0, 1) := by decide +kernel
theorem dX7_fires_29 : decode cX7_fires 29 = .ok (.aload_n 0, 1) := by decide +kernel
theorem dX7_fires_30 : decode cX7_fires 30 = .ok (.getfield 7, 3) := by decide +kernel
theorem dX7_fires_33 : decode cX7_fires 33 = .ok (.bipush 9, 2) := by decide +kernel
theorem dX7_fires_35 : decode cX7_fires 35 = .ok (.iaload, 1) := by decide +kernel
theorem dX7_fires_36 : decode cX7_fires 36 = .ok (.aload_n 0, 1) := by decide +kernel
theorem dX7_fires_37 : decode cX7_fires 37 = .ok (.getfield 7, 3) := by decide +kernel
theorem dX7_fires_40 : decode cX7_fires 40 = .ok (.bipush 8, 2) := by decide +kernel
theorem dX7_fires_42 : decode cX7_fires 42 = .ok (.iaload, 1) := by decide +kernel
theorem dX7_fires_43 : decode cX7_fires 43 = .ok (.irem, 1) := by decide +kernel
theorem dX7_fires_44 : decode cX7_fires 44 = .ok (.iload_n 1, 1) := by decide +kernel
theorem dX7_fires_45 : decode cX7_fires 45 = .ok (.iload_n 2, 1) := by decide +kernel
theorem dX7_fires_46 : decode cX7_fires 46 = .ok (.invokevirtual 100, 3) := by decide +kernel
theorem dX7_fires_49 : decode cX7_fires 49 = .ok (.iload_n 1, 1) := by decide +kernel
theorem dX7_fires_50 : decode cX7_fires 50 = .ok (.iload_n 2, 1) := by decide +kernel
theorem dX7_fires_51 : decode cX7_fires 51 = .ok (.iload_n 3, 1) := by decide +kernel
theorem dX7_fires_52 : decode cX7_fires 52 = .ok (.invokestatic 104, 3) := by decide +kernel
theorem dX7_fires_55 : decode cX7_fires 55 = .ok (.isub, 1) := by decide +kernel
theorem dX7_fires_56 : decode cX7_fires 56 = .ok (.istore 4, 2) := by decide +kernel
theorem dX7_fires_58 : decode cX7_fires 58 = .ok (.iload_n 1, 1) := by decide +kernel
theorem dX7_fires_59 : decode cX7_fires 59 = .ok (.bipush 20, 2) := by decide +kernel
theorem dX7_fires_61 : decode cX7_fires 61 = .ok (.idiv, 1) := by decide +kernel
theorem dX7_fires_62 : decode cX7_fires 62 = .ok (.iload_n 2, 1) := by decide +kernel
theorem dX7_fires_63 : decode cX7_fires 63 = .ok (.iadd, 1) := by decide +kernel
theorem dX7_fires_64 : decode cX7_fires 64 = .ok (.aload_n 0, 1) := by decide +kernel
theorem dX7_fires_65 : decode cX7_fires 65 = .ok (.getfield 7, 3) := by decide +kernel
theorem dX7_fires_68 : decode cX7_fires 68 = .ok (.bipush 10, 2) := by decide +kernel
theorem dX7_fires_70 : decode cX7_fires 70 = .ok (.iaload, 1) := by decide +kernel
theorem dX7_fires_71 : decode cX7_fires 71 = .ok (.ldc 107, 2) := by decide +kernel
theorem dX7_fires_73 : decode cX7_fires 73 = .ok (.idiv, 1) := by decide +kernel
theorem dX7_fires_74 : decode cX7_fires 74 = .ok (.bipush 40, 2) := by decide +kernel
theorem dX7_fires_76 : decode cX7_fires 76 = .ok (.irem, 1) := by decide +kernel
theorem dX7_fires_77 : decode cX7_fires 77 = .ok (.iadd, 1) := by decide +kernel
theorem dX7_fires_78 : decode cX7_fires 78 = .ok (.bipush 12, 2) := by decide +kernel
theorem dX7_fires_80 : decode cX7_fires 80 = .ok (.iload 4, 2) := by decide +kernel
theorem dX7_fires_82 : decode cX7_fires 82 = .ok (.ifCond .le 8, 3) := by decide +kernel
theorem dX7_fires_85 : decode cX7_fires 85 = .ok (.iload 4, 2) := by decide +kernel
theorem dX7_fires_87 : decode cX7_fires 87 = .ok (.goto 4, 3) := by decide +kernel
theorem dX7_fires_90 : decode cX7_fires 90 = .ok (.iconst 0, 1) := by decide +kernel
theorem dX7_fires_91 : decode cX7_fires 91 = .ok (.imul, 1) := by decide +kernel
theorem dX7_fires_92 : decode cX7_fires 92 = .ok (.iadd, 1) := by decide +kernel
theorem dX7_fires_93 : decode cX7_fires 93 = .ok (.sipush 20000, 3) := by decide +kernel
theorem dX7_fires_96 : decode cX7_fires 96 = .ok (.invokestatic 53, 3) := by decide +kernel
theorem dX7_fires_99 : decode cX7_fires 99 = .ok (.istore 5, 2) := by decide +kernel
theorem dX7_fires_101 : decode cX7_fires 101 = .ok (.aload_n 0, 1) := by decide +kernel
theorem dX7_fires_102 : decode cX7_fires 102 = .ok (.iload_n 1, 1) := by decide +kernel
theorem dX7_fires_103 : decode cX7_fires 103 = .ok (.iload_n 2, 1) := by decide +kernel
theorem dX7_fires_104 : decode cX7_fires 104 = .ok (.aload_n 0, 1) := by decide +kernel
theorem dX7_fires_105 : decode cX7_fires 105 = .ok (.getfield 7, 3) := by decide +kernel
theorem dX7_fires_108 : decode cX7_fires 108 = .ok (.bipush 11, 2) := by decide +kernel
theorem dX7_fires_110 : decode cX7_fires 110 = .ok (.iaload, 1) := by decide +kernel
theorem dX7_fires_111 : decode cX7_fires 111 = .ok (.iconst 1, 1) := by decide +kernel
theorem dX7_fires_112 : decode cX7_fires 112 = .ok (.if_icmp .ne 7, 3) := by decide +kernel
theorem dX7_fires_115 : decode cX7_fires 115 = .ok (.iconst 0, 1) := by decide +kernel
theorem dX7_fires_116 : decode cX7_fires 116 = .ok (.goto 5, 3) := by decide +kernel
theorem dX7_fires_119 : decode cX7_fires 119 = .ok (.iload 5, 2) := by decide +kernel
theorem dX7_fires_121 : decode cX7_fires 121 = .ok (.invokevirtual 108, 3) := by decide +kernel
theorem dX7_fires_124 : decode cX7_fires 124 = .ok (.ireturn, 1) := by decide +kernel
theorem dX7_fire_0 : decode cX7_fire 0 = .ok (.aload_n 0, 1) := by decide +kernel
theorem dX7_fire_1 : decode cX7_fire 1 = .ok (.iload_n 1, 1) := by decide +kernel
theorem dX7_fire_2 : decode cX7_fire 2 = .ok (.iload_n 2, 1) := by decide +kernel
theorem dX7_fire_3 : decode cX7_fire 3 = .ok (.invokestatic 111, 3) := by decide +kernel
theorem dX7_fire_6 : decode cX7_fire 6 = .ok (.ifCond .eq 18, 3) := by decide +kernel
theorem dX7_fire_9 : decode cX7_fire 9 = .ok (.iload_n 3, 1) := by decide +kernel
theorem dX7_fire_10 : decode cX7_fire 10 = .ok (.iconst 0, 1) := by decide +kernel
theorem dX7_fire_11 : decode cX7_fire 11 = .ok (.sipush 20000, 3) := by decide +kernel
theorem dX7_fire_14 : decode cX7_fire 14 = .ok (.invokestatic 38, 3) := by decide +kernel
theorem dX7_fire_17 : decode cX7_fire 17 = .ok (.ifCond .eq 7, 3) := by decide +kernel
theorem dX7_fire_20 : decode cX7_fire 20 = .ok (.iconst 0, 1) := by decide +kernel
theorem dX7_fire_21 : decode cX7_fire 21 = .ok (.goto 4, 3) := by decide +kernel
theorem dX7_fire_24 : decode cX7_fire 24 = .ok (.iconst 1, 1) := by decide +kernel
theorem dX7_fire_25 : decode cX7_fire 25 = .ok (.invokevirtual 34, 3) := by decide +kernel
theorem dX7_fire_28 : decode cX7_fire 28 = .ok (.ifCond .eq 5, 3) := by decide +kernel
theorem dX7_fire_31 : decode cX7_fire 31 = .ok (.iconst 0, 1) := by decide +kernel
theorem dX7_fire_32 : decode cX7_fire 32 = .ok (.ireturn, 1) := by decide +kernel
theorem dX7_fire_33 : decode cX7_fire 33 = .ok (.aload_n 0, 1) := by decide +kernel
theorem dX7_fire_34 : decode cX7_fire 34 = .ok (.invokevirtual 42, 3) := by decide +kernel
theorem dX7_fire_37 : decode cX7_fire 37 = .ok (.aload_n 0, 1) := by decide +kernel
theorem dX7_fire_38 : decode cX7_fire 38 = .ok (.iload_n 1, 1) := by decide +kernel
theorem dX7_fire_39 : decode cX7_fire 39 = .ok (.iload_n 2, 1) := by decide +kernel
theorem dX7_fire_40 : decode cX7_fire 40 = .ok (.iload_n 3, 1) := by decide +kernel
theorem dX7_fire_41 : decode cX7_fire 41 = .ok (.invokevirtual 108, 3) := by decide +kernel
theorem dX7_fire_44 : decode cX7_fire 44 = .ok (.ireturn, 1) := by decide +kernel
theorem dX7_isOctane_0 : decode cX7_isOctane 0 = .ok (.iload_n 0, 1) := by decide +kernel
theorem dX7_isOctane_1 : decode cX7_isOctane 1 = .ok (.bipush 80, 2) := by decide +kernel
theorem dX7_isOctane_3 : decode cX7_isOctane 3 = .ok (.bipush 110, 2) := by decide +kernel
theorem dX7_isOctane_5 : decode cX7_isOctane 5 = .ok (.invokestatic 38, 3) := by decide +kernel
theorem dX7_isOctane_8 : decode cX7_isOctane 8 = .ok (.ireturn, 1) := by decide +kernel
theorem dX7_drive_0 : decode cX7_drive 0 = .ok (.aload_n 0, 1) := by decide +kernel
theorem dX7_drive_1 : decode cX7_drive 1 = .ok (.iload_n 1, 1) := by decide +kernel
theorem dX7_drive_2 : decode cX7_drive 2 = .ok (.iload_n 2, 1) := by decide +kernel
theorem dX7_drive_3 : decode cX7_drive 3 = .ok (.invokestatic 111, 3) := by decide +kernel
theorem dX7_drive_6 : decode cX7_drive 6 = .ok (.ifCond .eq 26, 3) := by decide +kernel
theorem dX7_drive_9 : decode cX7_drive 9 = .ok (.iload_n 3, 1) := by decide +kernel
theorem dX7_drive_10 : decode cX7_drive 10 = .ok (.invokestatic 114, 3) := by decide +kernel
theorem dX7_drive_13 : decode cX7_drive 13 = .ok (.ifCond .eq 19, 3) := by decide +kernel
theorem dX7_drive_16 : decode cX7_drive 16 = .ok (.iload 4, 2) := by decide +kernel
theorem dX7_drive_18 : decode cX7_drive 18 = .ok (.iconst 0, 1) := by decide +kernel
theorem dX7_drive_19 : decode cX7_drive 19 = .ok (.sipush 1000, 3) := by decide +kernel
theorem dX7_drive_22 : decode cX7_drive 22 = .ok (.invokestatic 38, 3) := by decide +kernel
theorem dX7_drive_25 : decode cX7_drive 25 = .ok (.ifCond .eq 7, 3) := by decide +kernel
theorem dX7_drive_28 : decode cX7_drive 28 = .ok (.iconst 0, 1) := by decide +kernel
theorem dX7_drive_29 : decode cX7_drive 29 = .ok (.goto 4, 3) := by decide +kernel
theorem dX7_drive_32 : decode cX7_drive 32 = .ok (.iconst 1, 1) := by decide +kernel
theorem dX7_drive_33 : decode cX7_drive 33 = .ok (.invokevirtual 34, 3) := by decide +kernel
theorem dX7_drive_36 : decode cX7_drive 36 = .ok (.ifCond .eq 5, 3) := by decide +kernel
theorem dX7_drive_39 : decode cX7_drive 39 = .ok (.iconst 0, 1) := by decide +kernel
theorem dX7_drive_40 : decode cX7_drive 40 = .ok (.ireturn, 1) := by decide +kernel
theorem dX7_drive_41 : decode cX7_drive 41 = .ok (.aload_n 0, 1) := by decide +kernel
theorem dX7_drive_42 : decode cX7_drive 42 = .ok (.invokevirtual 42, 3) := by decide +kernel
theorem dX7_drive_45 : decode cX7_drive 45 = .ok (.iconst 0, 1) := by decide +kernel
theorem dX7_drive_46 : decode cX7_drive 46 = .ok (.istore 5, 2) := by decide +kernel
theorem dX7_drive_48 : decode cX7_drive 48 = .ok (.iconst 0, 1) := by decide +kernel
theorem dX7_drive_49 : decode cX7_drive 49 = .ok (.istore 6, 2) := by decide +kernel
theorem dX7_drive_51 : decode cX7_drive 51 = .ok (.iload 6, 2) := by decide +kernel
theorem dX7_drive_53 : decode cX7_drive 53 = .ok (.iload 4, 2) := by decide +kernel
theorem dX7_drive_55 : decode cX7_drive 55 = .ok (.if_icmp .ge 30, 3) := by decide +kernel
theorem dX7_drive_58 : decode cX7_drive 58 = .ok (.iload 5, 2) := by decide +kernel
theorem dX7_drive_60 : decode cX7_drive 60 = .ok (.aload_n 0, 1) := by decide +kernel
theorem dX7_drive_61 : decode cX7_drive 61 = .ok (.iload_n 1, 1) := by decide +kernel
theorem dX7_drive_62 : decode cX7_drive 62 = .ok (.iload_n 2, 1) := by decide +kernel
theorem dX7_drive_63 : decode cX7_drive 63 = .ok (.iload_n 3, 1) := by decide +kernel
theorem dX7_drive_64 : decode cX7_drive 64 = .ok (.invokevirtual 117, 3) := by decide +kernel
theorem dX7_drive_67 : decode cX7_drive 67 = .ok (.iconst 1, 1) := by decide +kernel
theorem dX7_drive_68 : decode cX7_drive 68 = .ok (.if_icmp .ne 7, 3) := by decide +kernel
theorem dX7_drive_71 : decode cX7_drive 71 = .ok (.iconst 1, 1) := by decide +kernel
theorem dX7_drive_72 : decode cX7_drive 72 = .ok (.goto 4, 3) := by decide +kernel
theorem dX7_drive_75 : decode cX7_drive 75 = .ok (.iconst 0, 1) := by decide +kernel
theorem dX7_drive_76 : decode cX7_drive 76 = .ok (.iadd, 1) := by decide +kernel
theorem dX7_drive_77 : decode cX7_drive 77 = .ok (.istore 5, 2) := by decide +kernel
theorem dX7_drive_79 : decode cX7_drive 79 = .ok (.iinc 6 1, 3) := by decide +kernel
theorem dX7_drive_82 : decode cX7_drive 82 = .ok (.goto (-31), 3) := by decide +kernel
theorem dX7_drive_85 : decode cX7_drive 85 = .ok (.iload 5, 2) := by decide +kernel
theorem dX7_drive_87 : decode cX7_drive 87 = .ok (.ireturn, 1) := by decide +kernel
theorem dX7_firings_0 : decode cX7_firings 0 = .ok (.aload_n 0, 1) := by decide +kernel
theorem dX7_firings_1 : decode cX7_firings 1 = .ok (.iconst 0, 1) := by decide +kernel
theorem dX7_firings_2 : decode cX7_firings 2 = .ok (.putfield 27, 3) := by decide +kernel
theorem dX7_firings_5 : decode cX7_firings 5 = .ok (.aload_n 0, 1) := by decide +kernel
theorem dX7_firings_6 : decode cX7_firings 6 = .ok (.getfield 7, 3) := by decide +kernel
theorem dX7_firings_9 : decode cX7_firings 9 = .ok (.bipush 9, 2) := by decide +kernel
theorem dX7_firings_11 : decode cX7_firings 11 = .ok (.iaload, 1) := by decide +kernel
theorem dX7_firings_12 : decode cX7_firings 12 = .ok (.ireturn, 1) := by decide +kernel
theorem dX7_next_0 : decode cX7_next 0 = .ok (.aload_n 0, 1) := by decide +kernel
theorem dX7_next_1 : decode cX7_next 1 = .ok (.iconst 0, 1) := by decide +kernel
theorem dX7_next_2 : decode cX7_next 2 = .ok (.putfield 27, 3) := by decide +kernel
theorem dX7_next_5 : decode cX7_next 5 = .ok (.aload_n 0, 1) := by decide +kernel
theorem dX7_next_6 : decode cX7_next 6 = .ok (.getfield 7, 3) := by decide +kernel
theorem dX7_next_9 : decode cX7_next 9 = .ok (.bipush 9, 2) := by decide +kernel
theorem dX7_next_11 : decode cX7_next 11 = .ok (.iaload, 1) := by decide +kernel
theorem dX7_next_12 : decode cX7_next 12 = .ok (.aload_n 0, 1) := by decide +kernel
theorem dX7_next_13 : decode cX7_next 13 = .ok (.getfield 7, 3) := by decide +kernel
theorem dX7_next_16 : decode cX7_next 16 = .ok (.bipush 8, 2) := by decide +kernel
theorem dX7_next_18 : decode cX7_next 18 = .ok (.iaload, 1) := by decide +kernel
theorem dX7_next_19 : decode cX7_next 19 = .ok (.irem, 1) := by decide +kernel
theorem dX7_next_20 : decode cX7_next 20 = .ok (.ireturn, 1) := by decide +kernel
theorem dX7_isCylinder_0 : decode cX7_isCylinder 0 = .ok (.iload_n 1, 1) := by decide +kernel
theorem dX7_isCylinder_1 : decode cX7_isCylinder 1 = .ok (.iconst 0, 1) := by decide +kernel
theorem dX7_isCylinder_2 : decode cX7_isCylinder 2 = .ok (.aload_n 0, 1) := by decide +kernel
theorem dX7_isCylinder_3 : decode cX7_isCylinder 3 = .ok (.getfield 7, 3) := by decide +kernel
theorem dX7_isCylinder_6 : decode cX7_isCylinder 6 = .ok (.bipush 8, 2) := by decide +kernel
theorem dX7_isCylinder_8 : decode cX7_isCylinder 8 = .ok (.iaload, 1) := by decide +kernel
theorem dX7_isCylinder_9 : decode cX7_isCylinder 9 = .ok (.iconst 1, 1) := by decide +kernel
theorem dX7_isCylinder_10 : decode cX7_isCylinder 10 = .ok (.isub, 1) := by decide +kernel
theorem dX7_isCylinder_11 : decode cX7_isCylinder 11 = .ok (.invokestatic 38, 3) := by decide +kernel
theorem dX7_isCylinder_14 : decode cX7_isCylinder 14 = .ok (.ireturn, 1) := by decide +kernel
theorem dX7_tellCylinder_0 : decode cX7_tellCylinder 0 = .ok (.iload_n 2, 1) := by decide +kernel
theorem dX7_tellCylinder_1 : decode cX7_tellCylinder 1 = .ok (.tableswitch 67 0 3 #[31, 41, 51, 61], 31) := by decide +kernel
theorem dX7_tellCylinder_32 : decode cX7_tellCylinder 32 = .ok (.aload_n 0, 1) := by decide +kernel
theorem dX7_tellCylinder_33 : decode cX7_tellCylinder 33 = .ok (.getfield 7, 3) := by decide +kernel
theorem dX7_tellCylinder_36 : decode cX7_tellCylinder 36 = .ok (.bipush 17, 2) := by decide +kernel
theorem dX7_tellCylinder_38 : decode cX7_tellCylinder 38 = .ok (.iload_n 1, 1) := by decide +kernel
theorem dX7_tellCylinder_39 : decode cX7_tellCylinder 39 = .ok (.iadd, 1) := by decide +kernel
theorem dX7_tellCylinder_40 : decode cX7_tellCylinder 40 = .ok (.iaload, 1) := by decide +kernel
theorem dX7_tellCylinder_41 : decode cX7_tellCylinder 41 = .ok (.ireturn, 1) := by decide +kernel
theorem dX7_tellCylinder_42 : decode cX7_tellCylinder 42 = .ok (.aload_n 0, 1) := by decide +kernel
theorem dX7_tellCylinder_43 : decode cX7_tellCylinder 43 = .ok (.getfield 7, 3) := by decide +kernel
theorem dX7_tellCylinder_46 : decode cX7_tellCylinder 46 = .ok (.bipush 25, 2) := by decide +kernel
theorem dX7_tellCylinder_48 : decode cX7_tellCylinder 48 = .ok (.iload_n 1, 1) := by decide +kernel
theorem dX7_tellCylinder_49 : decode cX7_tellCylinder 49 = .ok (.iadd, 1) := by decide +kernel
theorem dX7_tellCylinder_50 : decode cX7_tellCylinder 50 = .ok (.iaload, 1) := by decide +kernel
theorem dX7_tellCylinder_51 : decode cX7_tellCylinder 51 = .ok (.ireturn, 1) := by decide +kernel
theorem dX7_tellCylinder_52 : decode cX7_tellCylinder 52 = .ok (.aload_n 0, 1) := by decide +kernel
theorem dX7_tellCylinder_53 : decode cX7_tellCylinder 53 = .ok (.getfield 7, 3) := by decide +kernel
theorem dX7_tellCylinder_56 : decode cX7_tellCylinder 56 = .ok (.bipush 33, 2) := by decide +kernel
theorem dX7_tellCylinder_58 : decode cX7_tellCylinder 58 = .ok (.iload_n 1, 1) := by decide +kernel
theorem dX7_tellCylinder_59 : decode cX7_tellCylinder 59 = .ok (.iadd, 1) := by decide +kernel
theorem dX7_tellCylinder_60 : decode cX7_tellCylinder 60 = .ok (.iaload, 1) := by decide +kernel
theorem dX7_tellCylinder_61 : decode cX7_tellCylinder 61 = .ok (.ireturn, 1) := by decide +kernel
theorem dX7_tellCylinder_62 : decode cX7_tellCylinder 62 = .ok (.aload_n 0, 1) := by decide +kernel
theorem dX7_tellCylinder_63 : decode cX7_tellCylinder 63 = .ok (.iload_n 1, 1) := by decide +kernel
theorem dX7_tellCylinder_64 : decode cX7_tellCylinder 64 = .ok (.invokevirtual 77, 3) := by decide +kernel
theorem dX7_tellCylinder_67 : decode cX7_tellCylinder 67 = .ok (.ireturn, 1) := by decide +kernel
theorem dX7_tellCylinder_68 : decode cX7_tellCylinder 68 = .ok (.aload_n 0, 1) := by decide +kernel
theorem dX7_tellCylinder_69 : decode cX7_tellCylinder 69 = .ok (.getfield 7, 3) := by decide +kernel
theorem dX7_tellCylinder_72 : decode cX7_tellCylinder 72 = .ok (.bipush 41, 2) := by decide +kernel
theorem dX7_tellCylinder_74 : decode cX7_tellCylinder 74 = .ok (.iload_n 1, 1) := by decide +kernel
theorem dX7_tellCylinder_75 : decode cX7_tellCylinder 75 = .ok (.iadd, 1) := by decide +kernel
theorem dX7_tellCylinder_76 : decode cX7_tellCylinder 76 = .ok (.iaload, 1) := by decide +kernel
theorem dX7_tellCylinder_77 : decode cX7_tellCylinder 77 = .ok (.ireturn, 1) := by decide +kernel
theorem dX7_cylinder_0 : decode cX7_cylinder 0 = .ok (.aload_n 0, 1) := by decide +kernel
theorem dX7_cylinder_1 : decode cX7_cylinder 1 = .ok (.aload_n 0, 1) := by decide +kernel
theorem dX7_cylinder_2 : decode cX7_cylinder 2 = .ok (.iload_n 1, 1) := by decide +kernel
theorem dX7_cylinder_3 : decode cX7_cylinder 3 = .ok (.invokevirtual 120, 3) := by decide +kernel
theorem dX7_cylinder_6 : decode cX7_cylinder 6 = .ok (.ifCond .ne 7, 3) := by decide +kernel
theorem dX7_cylinder_9 : decode cX7_cylinder 9 = .ok (.iconst 1, 1) := by decide +kernel
theorem dX7_cylinder_10 : decode cX7_cylinder 10 = .ok (.goto 17, 3) := by decide +kernel
theorem dX7_cylinder_13 : decode cX7_cylinder 13 = .ok (.iload_n 2, 1) := by decide +kernel
theorem dX7_cylinder_14 : decode cX7_cylinder 14 = .ok (.iconst 0, 1) := by decide +kernel
theorem dX7_cylinder_15 : decode cX7_cylinder 15 = .ok (.iconst 4, 1) := by decide +kernel
theorem dX7_cylinder_16 : decode cX7_cylinder 16 = .ok (.invokestatic 38, 3) := by decide +kernel
theorem dX7_cylinder_19 : decode cX7_cylinder 19 = .ok (.ifCond .eq 7, 3) := by decide +kernel
theorem dX7_cylinder_22 : decode cX7_cylinder 22 = .ok (.iconst 0, 1) := by decide +kernel
theorem dX7_cylinder_23 : decode cX7_cylinder 23 = .ok (.goto 4, 3) := by decide +kernel
theorem dX7_cylinder_26 : decode cX7_cylinder 26 = .ok (.iconst 2, 1) := by decide +kernel
theorem dX7_cylinder_27 : decode cX7_cylinder 27 = .ok (.invokevirtual 34, 3) := by decide +kernel
theorem dX7_cylinder_30 : decode cX7_cylinder 30 = .ok (.ifCond .eq 7, 3) := by decide +kernel
theorem dX7_cylinder_33 : decode cX7_cylinder 33 = .ok (.iconst 0, 1) := by decide +kernel
theorem dX7_cylinder_34 : decode cX7_cylinder 34 = .ok (.goto 9, 3) := by decide +kernel
theorem dX7_cylinder_37 : decode cX7_cylinder 37 = .ok (.aload_n 0, 1) := by decide +kernel
theorem dX7_cylinder_38 : decode cX7_cylinder 38 = .ok (.iload_n 1, 1) := by decide +kernel
theorem dX7_cylinder_39 : decode cX7_cylinder 39 = .ok (.iload_n 2, 1) := by decide +kernel
theorem dX7_cylinder_40 : decode cX7_cylinder 40 = .ok (.invokevirtual 123, 3) := by decide +kernel
theorem dX7_cylinder_43 : decode cX7_cylinder 43 = .ok (.ireturn, 1) := by decide +kernel
theorem dX7_learned_0 : decode cX7_learned 0 = .ok (.aload_n 0, 1) := by decide +kernel
theorem dX7_learned_1 : decode cX7_learned 1 = .ok (.iload_n 1, 1) := by decide +kernel
theorem dX7_learned_2 : decode cX7_learned 2 = .ok (.iload_n 2, 1) := by decide +kernel
theorem dX7_learned_3 : decode cX7_learned 3 = .ok (.invokestatic 49, 3) := by decide +kernel
theorem dX7_learned_6 : decode cX7_learned 6 = .ok (.ifCond .eq 7, 3) := by decide +kernel
theorem dX7_learned_9 : decode cX7_learned 9 = .ok (.iconst 0, 1) := by decide +kernel
theorem dX7_learned_10 : decode cX7_learned 10 = .ok (.goto 4, 3) := by decide +kernel
theorem dX7_learned_13 : decode cX7_learned 13 = .ok (.iconst 1, 1) := by decide +kernel
theorem dX7_learned_14 : decode cX7_learned 14 = .ok (.invokevirtual 34, 3) := by decide +kernel
theorem dX7_learned_17 : decode cX7_learned 17 = .ok (.ifCond .eq 7, 3) := by decide +kernel
theorem dX7_learned_20 : decode cX7_learned 20 = .ok (.iconst 0, 1) := by decide +kernel
theorem dX7_learned_21 : decode cX7_learned 21 = .ok (.goto 16, 3) := by decide +kernel
theorem dX7_learned_24 : decode cX7_learned 24 = .ok (.aload_n 0, 1) := by decide +kernel
theorem dX7_learned_25 : decode cX7_learned 25 = .ok (.getfield 7, 3) := by decide +kernel
theorem dX7_learned_28 : decode cX7_learned 28 = .ok (.bipush 49, 2) := by decide +kernel
theorem dX7_learned_30 : decode cX7_learned 30 = .ok (.iconst 4, 1) := by decide +kernel
theorem dX7_learned_31 : decode cX7_learned 31 = .ok (.iload_n 1, 1) := by decide +kernel
theorem dX7_learned_32 : decode cX7_learned 32 = .ok (.imul, 1) := by decide +kernel
theorem dX7_learned_33 : decode cX7_learned 33 = .ok (.iadd, 1) := by decide +kernel
theorem dX7_learned_34 : decode cX7_learned 34 = .ok (.iload_n 2, 1) := by decide +kernel
theorem dX7_learned_35 : decode cX7_learned 35 = .ok (.iadd, 1) := by decide +kernel
theorem dX7_learned_36 : decode cX7_learned 36 = .ok (.iaload, 1) := by decide +kernel
theorem dX7_learned_37 : decode cX7_learned 37 = .ok (.ireturn, 1) := by decide +kernel
theorem dX7_angle_0 : decode cX7_angle 0 = .ok (.aload_n 0, 1) := by decide +kernel
theorem dX7_angle_1 : decode cX7_angle 1 = .ok (.aload_n 0, 1) := by decide +kernel
theorem dX7_angle_2 : decode cX7_angle 2 = .ok (.iload_n 1, 1) := by decide +kernel
theorem dX7_angle_3 : decode cX7_angle 3 = .ok (.invokevirtual 120, 3) := by decide +kernel
theorem dX7_angle_6 : decode cX7_angle 6 = .ok (.ifCond .ne 7, 3) := by decide +kernel
theorem dX7_angle_9 : decode cX7_angle 9 = .ok (.iconst 1, 1) := by decide +kernel
theorem dX7_angle_10 : decode cX7_angle 10 = .ok (.goto 16, 3) := by decide +kernel
theorem dX7_angle_13 : decode cX7_angle 13 = .ok (.iload_n 2, 1) := by decide +kernel
theorem dX7_angle_14 : decode cX7_angle 14 = .ok (.iload_n 3, 1) := by decide +kernel
theorem dX7_angle_15 : decode cX7_angle 15 = .ok (.invokestatic 111, 3) := by decide +kernel
theorem dX7_angle_18 : decode cX7_angle 18 = .ok (.ifCond .eq 7, 3) := by decide +kernel
theorem dX7_angle_21 : decode cX7_angle 21 = .ok (.iconst 0, 1) := by decide +kernel
theorem dX7_angle_22 : decode cX7_angle 22 = .ok (.goto 4, 3) := by decide +kernel
theorem dX7_angle_25 : decode cX7_angle 25 = .ok (.iconst 2, 1) := by decide +kernel
theorem dX7_angle_26 : decode cX7_angle 26 = .ok (.invokevirtual 34, 3) := by decide +kernel
theorem dX7_angle_29 : decode cX7_angle 29 = .ok (.ifCond .eq 5, 3) := by decide +kernel
theorem dX7_angle_32 : decode cX7_angle 32 = .ok (.iconst 0, 1) := by decide +kernel
theorem dX7_angle_33 : decode cX7_angle 33 = .ok (.ireturn, 1) := by decide +kernel
theorem dX7_angle_34 : decode cX7_angle 34 = .ok (.iload 4, 2) := by decide +kernel
theorem dX7_angle_36 : decode cX7_angle 36 = .ok (.ifCond .eq 13, 3) := by decide +kernel
theorem dX7_angle_39 : decode cX7_angle 39 = .ok (.aload_n 0, 1) := by decide +kernel
theorem dX7_angle_40 : decode cX7_angle 40 = .ok (.iload_n 1, 1) := by decide +kernel
theorem dX7_angle_41 : decode cX7_angle 41 = .ok (.iload_n 2, 1) := by decide +kernel
theorem dX7_angle_42 : decode cX7_angle 42 = .ok (.iload_n 3, 1) := by decide +kernel
theorem dX7_angle_43 : decode cX7_angle 43 = .ok (.invokevirtual 100, 3) := by decide +kernel
theorem dX7_angle_46 : decode cX7_angle 46 = .ok (.goto 13, 3) := by decide +kernel
theorem dX7_angle_49 : decode cX7_angle 49 = .ok (.aload_n 0, 1) := by decide +kernel
theorem dX7_angle_50 : decode cX7_angle 50 = .ok (.iload_n 1, 1) := by decide +kernel
theorem dX7_angle_51 : decode cX7_angle 51 = .ok (.iload_n 2, 1) := by decide +kernel
theorem dX7_angle_52 : decode cX7_angle 52 = .ok (.iload_n 3, 1) := by decide +kernel
theorem dX7_angle_53 : decode cX7_angle 53 = .ok (.invokestatic 57, 3) := by decide +kernel
theorem dX7_angle_56 : decode cX7_angle 56 = .ok (.invokevirtual 60, 3) := by decide +kernel
theorem dX7_angle_59 : decode cX7_angle 59 = .ok (.ireturn, 1) := by decide +kernel
theorem dX7_status_0 : decode cX7_status 0 = .ok (.aload_n 0, 1) := by decide +kernel
theorem dX7_status_1 : decode cX7_status 1 = .ok (.iload_n 1, 1) := by decide +kernel
theorem dX7_status_2 : decode cX7_status 2 = .ok (.iconst 0, 1) := by decide +kernel
theorem dX7_status_3 : decode cX7_status 3 = .ok (.iconst 4, 1) := by decide +kernel
theorem dX7_status_4 : decode cX7_status 4 = .ok (.invokestatic 38, 3) := by decide +kernel
theorem dX7_status_7 : decode cX7_status 7 = .ok (.ifCond .eq 7, 3) := by decide +kernel
theorem dX7_status_10 : decode cX7_status 10 = .ok (.iconst 0, 1) := by decide +kernel
theorem dX7_status_11 : decode cX7_status 11 = .ok (.goto 4, 3) := by decide +kernel
theorem dX7_status_14 : decode cX7_status 14 = .ok (.iconst 1, 1) := by decide +kernel
theorem dX7_status_15 : decode cX7_status 15 = .ok (.invokevirtual 34, 3) := by decide +kernel
theorem dX7_status_18 : decode cX7_status 18 = .ok (.ifCond .eq 7, 3) := by decide +kernel
theorem dX7_status_21 : decode cX7_status 21 = .ok (.iconst 0, 1) := by decide +kernel
theorem dX7_status_22 : decode cX7_status 22 = .ok (.goto 12, 3) := by decide +kernel
theorem dX7_status_25 : decode cX7_status 25 = .ok (.aload_n 0, 1) := by decide +kernel
theorem dX7_status_26 : decode cX7_status 26 = .ok (.getfield 7, 3) := by decide +kernel
theorem dX7_status_29 : decode cX7_status 29 = .ok (.bipush 12, 2) := by decide +kernel
theorem dX7_status_31 : decode cX7_status 31 = .ok (.iload_n 1, 1) := by decide +kernel
theorem dX7_status_32 : decode cX7_status 32 = .ok (.iadd, 1) := by decide +kernel
theorem dX7_status_33 : decode cX7_status 33 = .ok (.iaload, 1) := by decide +kernel
theorem dX7_status_34 : decode cX7_status 34 = .ok (.ireturn, 1) := by decide +kernel
theorem dX7_unfairness_0 : decode cX7_unfairness 0 = .ok (.aload_n 0, 1) := by decide +kernel
theorem dX7_unfairness_1 : decode cX7_unfairness 1 = .ok (.iconst 0, 1) := by decide +kernel
theorem dX7_unfairness_2 : decode cX7_unfairness 2 = .ok (.putfield 27, 3) := by decide +kernel
theorem dX7_unfairness_5 : decode cX7_unfairness 5 = .ok (.aload_n 0, 1) := by decide +kernel
theorem dX7_unfairness_6 : decode cX7_unfairness 6 = .ok (.invokevirtual 70, 3) := by decide +kernel
theorem dX7_unfairness_9 : decode cX7_unfairness 9 = .ok (.istore_n 1, 1) := by decide +kernel
theorem dX7_unfairness_10 : decode cX7_unfairness 10 = .ok (.iconst 0, 1) := by decide +kernel
theorem dX7_unfairness_11 : decode cX7_unfairness 11 = .ok (.istore_n 2, 1) := by decide +kernel
theorem dX7_unfairness_12 : decode cX7_unfairness 12 = .ok (.iload_n 2, 1) := by decide +kernel
theorem dX7_unfairness_13 : decode cX7_unfairness 13 = .ok (.aload_n 0, 1) := by decide +kernel
theorem dX7_unfairness_14 : decode cX7_unfairness 14 = .ok (.getfield 7, 3) := by decide +kernel
theorem dX7_unfairness_17 : decode cX7_unfairness 17 = .ok (.bipush 8, 2) := by decide +kernel
theorem dX7_unfairness_19 : decode cX7_unfairness 19 = .ok (.iaload, 1) := by decide +kernel
theorem dX7_unfairness_20 : decode cX7_unfairness 20 = .ok (.if_icmp .ge 23, 3) := by decide +kernel
theorem dX7_unfairness_23 : decode cX7_unfairness 23 = .ok (.iload_n 1, 1) := by decide +kernel
theorem dX7_unfairness_24 : decode cX7_unfairness 24 = .ok (.aload_n 0, 1) := by decide +kernel
theorem dX7_unfairness_25 : decode cX7_unfairness 25 = .ok (.getfield 7, 3) := by decide +kernel
theorem dX7_unfairness_28 : decode cX7_unfairness 28 = .ok (.bipush 17, 2) := by decide +kernel
theorem dX7_unfairness_30 : decode cX7_unfairness 30 = .ok (.iload_n 2, 1) := by decide +kernel
theorem dX7_unfairness_31 : decode cX7_unfairness 31 = .ok (.iadd, 1) := by decide +kernel
theorem dX7_unfairness_32 : decode cX7_unfairness 32 = .ok (.iaload, 1) := by decide +kernel
theorem dX7_unfairness_33 : decode cX7_unfairness 33 = .ok (.invokestatic 53, 3) := by decide +kernel
theorem dX7_unfairness_36 : decode cX7_unfairness 36 = .ok (.istore_n 1, 1) := by decide +kernel
theorem dX7_unfairness_37 : decode cX7_unfairness 37 = .ok (.iinc 2 1, 3) := by decide +kernel
theorem dX7_unfairness_40 : decode cX7_unfairness 40 = .ok (.goto (-28), 3) := by decide +kernel
theorem dX7_unfairness_43 : decode cX7_unfairness 43 = .ok (.aload_n 0, 1) := by decide +kernel
theorem dX7_unfairness_44 : decode cX7_unfairness 44 = .ok (.invokevirtual 70, 3) := by decide +kernel
theorem dX7_unfairness_47 : decode cX7_unfairness 47 = .ok (.iload_n 1, 1) := by decide +kernel
theorem dX7_unfairness_48 : decode cX7_unfairness 48 = .ok (.isub, 1) := by decide +kernel
theorem dX7_unfairness_49 : decode cX7_unfairness 49 = .ok (.ireturn, 1) := by decide +kernel
theorem dX7_rateBits_0 : decode cX7_rateBits 0 = .ok (.aload_n 0, 1) := by decide +kernel
theorem dX7_rateBits_1 : decode cX7_rateBits 1 = .ok (.iconst 0, 1) := by decide +kernel
theorem dX7_rateBits_2 : decode cX7_rateBits 2 = .ok (.putfield 27, 3) := by decide +kernel
theorem dX7_rateBits_5 : decode cX7_rateBits 5 = .ok (.iconst 0, 1) := by decide +kernel
theorem dX7_rateBits_6 : decode cX7_rateBits 6 = .ok (.istore_n 1, 1) := by decide +kernel
theorem dX7_rateBits_7 : decode cX7_rateBits 7 = .ok (.iconst 0, 1) := by decide +kernel
theorem dX7_rateBits_8 : decode cX7_rateBits 8 = .ok (.istore_n 2, 1) := by decide +kernel
theorem dX7_rateBits_9 : decode cX7_rateBits 9 = .ok (.iload_n 2, 1) := by decide +kernel
theorem dX7_rateBits_10 : decode cX7_rateBits 10 = .ok (.aload_n 0, 1) := by decide +kernel
theorem dX7_rateBits_11 : decode cX7_rateBits 11 = .ok (.getfield 7, 3) := by decide +kernel
theorem dX7_rateBits_14 : decode cX7_rateBits 14 = .ok (.bipush 8, 2) := by decide +kernel
theorem dX7_rateBits_16 : decode cX7_rateBits 16 = .ok (.iaload, 1) := by decide +kernel
theorem dX7_rateBits_17 : decode cX7_rateBits 17 = .ok (.if_icmp .ge 21, 3) := by decide +kernel
theorem dX7_rateBits_20 : decode cX7_rateBits 20 = .ok (.iload_n 1, 1) := by decide +kernel
theorem dX7_rateBits_21 : decode cX7_rateBits 21 = .ok (.aload_n 0, 1) := by decide +kernel
theorem dX7_rateBits_22 : decode cX7_rateBits 22 = .ok (.getfield 7, 3) := by decide +kernel
theorem dX7_rateBits_25 : decode cX7_rateBits 25 = .ok (.bipush 41, 2) := by decide +kernel
theorem dX7_rateBits_27 : decode cX7_rateBits 27 = .ok (.iload_n 2, 1) := by decide +kernel
theorem dX7_rateBits_28 : decode cX7_rateBits 28 = .ok (.iadd, 1) := by decide +kernel
theorem dX7_rateBits_29 : decode cX7_rateBits 29 = .ok (.iaload, 1) := by decide +kernel
theorem dX7_rateBits_30 : decode cX7_rateBits 30 = .ok (.iadd, 1) := by decide +kernel
theorem dX7_rateBits_31 : decode cX7_rateBits 31 = .ok (.istore_n 1, 1) := by decide +kernel
theorem dX7_rateBits_32 : decode cX7_rateBits 32 = .ok (.iinc 2 1, 3) := by decide +kernel
theorem dX7_rateBits_35 : decode cX7_rateBits 35 = .ok (.goto (-26), 3) := by decide +kernel
theorem dX7_rateBits_38 : decode cX7_rateBits 38 = .ok (.aload_n 0, 1) := by decide +kernel
theorem dX7_rateBits_39 : decode cX7_rateBits 39 = .ok (.getfield 7, 3) := by decide +kernel
theorem dX7_rateBits_42 : decode cX7_rateBits 42 = .ok (.bipush 9, 2) := by decide +kernel
theorem dX7_rateBits_44 : decode cX7_rateBits 44 = .ok (.iaload, 1) := by decide +kernel
theorem dX7_rateBits_45 : decode cX7_rateBits 45 = .ok (.ifCond .ne 7, 3) := by decide +kernel
theorem dX7_rateBits_48 : decode cX7_rateBits 48 = .ok (.iconst 0, 1) := by decide +kernel
theorem dX7_rateBits_49 : decode cX7_rateBits 49 = .ok (.goto 17, 3) := by decide +kernel
theorem dX7_rateBits_52 : decode cX7_rateBits 52 = .ok (.iload_n 1, 1) := by decide +kernel
theorem dX7_rateBits_53 : decode cX7_rateBits 53 = .ok (.i2f, 1) := by decide +kernel
theorem dX7_rateBits_54 : decode cX7_rateBits 54 = .ok (.aload_n 0, 1) := by decide +kernel
theorem dX7_rateBits_55 : decode cX7_rateBits 55 = .ok (.getfield 7, 3) := by decide +kernel
theorem dX7_rateBits_58 : decode cX7_rateBits 58 = .ok (.bipush 9, 2) := by decide +kernel
theorem dX7_rateBits_60 : decode cX7_rateBits 60 = .ok (.iaload, 1) := by decide +kernel
theorem dX7_rateBits_61 : decode cX7_rateBits 61 = .ok (.i2f, 1) := by decide +kernel
theorem dX7_rateBits_62 : decode cX7_rateBits 62 = .ok (.fdiv, 1) := by decide +kernel
theorem dX7_rateBits_63 : decode cX7_rateBits 63 = .ok (.invokestatic 126, 3) := by decide +kernel
theorem dX7_rateBits_66 : decode cX7_rateBits 66 = .ok (.ireturn, 1) := by decide +kernel
theorem dX7_octane_0 : decode cX7_octane 0 = .ok (.aload_n 0, 1) := by decide +kernel
theorem dX7_octane_1 : decode cX7_octane 1 = .ok (.iload_n 1, 1) := by decide +kernel
theorem dX7_octane_2 : decode cX7_octane 2 = .ok (.iconst 0, 1) := by decide +kernel
theorem dX7_octane_3 : decode cX7_octane 3 = .ok (.iconst 3, 1) := by decide +kernel
theorem dX7_octane_4 : decode cX7_octane 4 = .ok (.invokestatic 38, 3) := by decide +kernel
theorem dX7_octane_7 : decode cX7_octane 7 = .ok (.ifCond .eq 7, 3) := by decide +kernel
theorem dX7_octane_10 : decode cX7_octane 10 = .ok (.iconst 0, 1) := by decide +kernel
theorem dX7_octane_11 : decode cX7_octane 11 = .ok (.goto 4, 3) := by decide +kernel
theorem dX7_octane_14 : decode cX7_octane 14 = .ok (.iconst 1, 1) := by decide +kernel
theorem dX7_octane_15 : decode cX7_octane 15 = .ok (.invokevirtual 34, 3) := by decide +kernel
theorem dX7_octane_18 : decode cX7_octane 18 = .ok (.ifCond .eq 5, 3) := by decide +kernel
theorem dX7_octane_21 : decode cX7_octane 21 = .ok (.dconst 0, 1) := by decide +kernel
theorem dX7_octane_22 : decode cX7_octane 22 = .ok (.dreturn, 1) := by decide +kernel
theorem dX7_octane_23 : decode cX7_octane 23 = .ok (.iconst 0, 1) := by decide +kernel
theorem dX7_octane_24 : decode cX7_octane 24 = .ok (.istore_n 2, 1) := by decide +kernel
theorem dX7_octane_25 : decode cX7_octane 25 = .ok (.iconst 0, 1) := by decide +kernel
theorem dX7_octane_26 : decode cX7_octane 26 = .ok (.istore_n 3, 1) := by decide +kernel
theorem dX7_octane_27 : decode cX7_octane 27 = .ok (.iconst 0, 1) := by decide +kernel
theorem dX7_octane_28 : decode cX7_octane 28 = .ok (.istore 4, 2) := by decide +kernel
theorem dX7_octane_30 : decode cX7_octane 30 = .ok (.iload 4, 2) := by decide +kernel
theorem dX7_octane_32 : decode cX7_octane 32 = .ok (.bipush 6, 2) := by decide +kernel
theorem dX7_octane_34 : decode cX7_octane 34 = .ok (.if_icmp .ge 43, 3) := by decide +kernel
theorem dX7_octane_37 : decode cX7_octane 37 = .ok (.aload_n 0, 1) := by decide +kernel
theorem dX7_octane_38 : decode cX7_octane 38 = .ok (.getfield 7, 3) := by decide +kernel
theorem dX7_octane_41 : decode cX7_octane 41 = .ok (.bipush 49, 2) := by decide +kernel
theorem dX7_octane_43 : decode cX7_octane 43 = .ok (.iconst 4, 1) := by decide +kernel
theorem dX7_octane_44 : decode cX7_octane 44 = .ok (.iload 4, 2) := by decide +kernel
theorem dX7_octane_46 : decode cX7_octane 46 = .ok (.imul, 1) := by decide +kernel
theorem dX7_octane_47 : decode cX7_octane 47 = .ok (.iadd, 1) := by decide +kernel
theorem dX7_octane_48 : decode cX7_octane 48 = .ok (.iload_n 1, 1) := by decide +kernel
theorem dX7_octane_49 : decode cX7_octane 49 = .ok (.iadd, 1) := by decide +kernel
theorem dX7_octane_50 : decode cX7_octane 50 = .ok (.iaload, 1) := by decide +kernel
theorem dX7_octane_51 : decode cX7_octane 51 = .ok (.istore 5, 2) := by decide +kernel
theorem dX7_octane_53 : decode cX7_octane 53 = .ok (.iload_n 2, 1) := by decide +kernel
theorem dX7_octane_54 : decode cX7_octane 54 = .ok (.iload 5, 2) := by decide +kernel
theorem dX7_octane_56 : decode cX7_octane 56 = .ok (.ifCond .le 7, 3) := by decide +kernel
theorem dX7_octane_59 : decode cX7_octane 59 = .ok (.iconst 1, 1) := by decide +kernel
theorem dX7_octane_60 : decode cX7_octane 60 = .ok (.goto 4, 3) := by decide +kernel
theorem dX7_octane_63 : decode cX7_octane 63 = .ok (.iconst 0, 1) := by decide +kernel
theorem dX7_octane_64 : decode cX7_octane 64 = .ok (.iadd, 1) := by decide +kernel
theorem dX7_octane_65 : decode cX7_octane 65 = .ok (.istore_n 2, 1) := by decide +kernel
theorem dX7_octane_66 : decode cX7_octane 66 = .ok (.iload_n 3, 1) := by decide +kernel
theorem dX7_octane_67 : decode cX7_octane 67 = .ok (.iload 5, 2) := by decide +kernel
theorem dX7_octane_69 : decode cX7_octane 69 = .ok (.iadd, 1) := by decide +kernel
theorem dX7_octane_70 : decode cX7_octane 70 = .ok (.istore_n 3, 1) := by decide +kernel
theorem dX7_octane_71 : decode cX7_octane 71 = .ok (.iinc 4 1, 3) := by decide +kernel
theorem dX7_octane_74 : decode cX7_octane 74 = .ok (.goto (-44), 3) := by decide +kernel
theorem dX7_octane_77 : decode cX7_octane 77 = .ok (.iload_n 2, 1) := by decide +kernel
theorem dX7_octane_78 : decode cX7_octane 78 = .ok (.ifCond .ne 9, 3) := by decide +kernel
theorem dX7_octane_81 : decode cX7_octane 81 = .ok (.ldc2_w 132, 3) := by decide +kernel
theorem dX7_octane_84 : decode cX7_octane 84 = .ok (.goto 16, 3) := by decide +kernel
theorem dX7_octane_87 : decode cX7_octane 87 = .ok (.ldc2_w 132, 3) := by decide +kernel
theorem dX7_octane_90 : decode cX7_octane 90 = .ok (.iload_n 3, 1) := by decide +kernel
theorem dX7_octane_91 : decode cX7_octane 91 = .ok (.i2d, 1) := by decide +kernel
theorem dX7_octane_92 : decode cX7_octane 92 = .ok (.iload_n 2, 1) := by decide +kernel
theorem dX7_octane_93 : decode cX7_octane 93 = .ok (.i2d, 1) := by decide +kernel
theorem dX7_octane_94 : decode cX7_octane 94 = .ok (.ddiv, 1) := by decide +kernel
theorem dX7_octane_95 : decode cX7_octane 95 = .ok (.ldc2_w 134, 3) := by decide +kernel
theorem dX7_octane_98 : decode cX7_octane 98 = .ok (.ddiv, 1) := by decide +kernel
theorem dX7_octane_99 : decode cX7_octane 99 = .ok (.dsub, 1) := by decide +kernel
theorem dX7_octane_100 : decode cX7_octane 100 = .ok (.dreturn, 1) := by decide +kernel
theorem dX7_extreme_0 : decode cX7_extreme 0 = .ok (.aload_n 0, 1) := by decide +kernel
theorem dX7_extreme_1 : decode cX7_extreme 1 = .ok (.iload_n 1, 1) := by decide +kernel
theorem dX7_extreme_2 : decode cX7_extreme 2 = .ok (.iconst 0, 1) := by decide +kernel
theorem dX7_extreme_3 : decode cX7_extreme 3 = .ok (.iload_n 2, 1) := by decide +kernel
theorem dX7_extreme_4 : decode cX7_extreme 4 = .ok (.ifCond .eq 7, 3) := by decide +kernel
theorem dX7_extreme_7 : decode cX7_extreme 7 = .ok (.iconst 5, 1) := by decide +kernel
theorem dX7_extreme_8 : decode cX7_extreme 8 = .ok (.goto 4, 3) := by decide +kernel
theorem dX7_extreme_11 : decode cX7_extreme 11 = .ok (.iconst 3, 1) := by decide +kernel
theorem dX7_extreme_12 : decode cX7_extreme 12 = .ok (.invokestatic 38, 3) := by decide +kernel
theorem dX7_extreme_15 : decode cX7_extreme 15 = .ok (.ifCond .eq 7, 3) := by decide +kernel
theorem dX7_extreme_18 : decode cX7_extreme 18 = .ok (.iconst 0, 1) := by decide +kernel
theorem dX7_extreme_19 : decode cX7_extreme 19 = .ok (.goto 4, 3) := by decide +kernel
theorem dX7_extreme_22 : decode cX7_extreme 22 = .ok (.iconst 1, 1) := by decide +kernel
theorem dX7_extreme_23 : decode cX7_extreme 23 = .ok (.invokevirtual 34, 3) := by decide +kernel
theorem dX7_extreme_26 : decode cX7_extreme 26 = .ok (.ifCond .eq 5, 3) := by decide +kernel
theorem dX7_extreme_29 : decode cX7_extreme 29 = .ok (.iconst 0, 1) := by decide +kernel
theorem dX7_extreme_30 : decode cX7_extreme 30 = .ok (.ireturn, 1) := by decide +kernel
theorem dX7_extreme_31 : decode cX7_extreme 31 = .ok (.aload_n 0, 1) := by decide +kernel
theorem dX7_extreme_32 : decode cX7_extreme 32 = .ok (.getfield 7, 3) := by decide +kernel
theorem dX7_extreme_35 : decode cX7_extreme 35 = .ok (.bipush 49, 2) := by decide +kernel
theorem dX7_extreme_37 : decode cX7_extreme 37 = .ok (.iload_n 2, 1) := by decide +kernel
theorem dX7_extreme_38 : decode cX7_extreme 38 = .ok (.ifCond .eq 9, 3) := by decide +kernel
theorem dX7_extreme_41 : decode cX7_extreme 41 = .ok (.iconst 4, 1) := by decide +kernel
theorem dX7_extreme_42 : decode cX7_extreme 42 = .ok (.iload_n 1, 1) := by decide +kernel
theorem dX7_extreme_43 : decode cX7_extreme 43 = .ok (.imul, 1) := by decide +kernel
theorem dX7_extreme_44 : decode cX7_extreme 44 = .ok (.goto 4, 3) := by decide +kernel
theorem dX7_extreme_47 : decode cX7_extreme 47 = .ok (.iload_n 1, 1) := by decide +kernel
theorem dX7_extreme_48 : decode cX7_extreme 48 = .ok (.iadd, 1) := by decide +kernel
theorem dX7_extreme_49 : decode cX7_extreme 49 = .ok (.iaload, 1) := by decide +kernel
theorem dX7_extreme_50 : decode cX7_extreme 50 = .ok (.istore 4, 2) := by decide +kernel
theorem dX7_extreme_52 : decode cX7_extreme 52 = .ok (.iconst 0, 1) := by decide +kernel
theorem dX7_extreme_53 : decode cX7_extreme 53 = .ok (.istore 5, 2) := by decide +kernel
theorem dX7_extreme_55 : decode cX7_extreme 55 = .ok (.iload 5, 2) := by decide +kernel
theorem dX7_extreme_57 : decode cX7_extreme 57 = .ok (.bipush 24, 2) := by decide +kernel
theorem dX7_extreme_59 : decode cX7_extreme 59 = .ok (.if_icmp .ge 70, 3) := by decide +kernel
theorem dX7_extreme_62 : decode cX7_extreme 62 = .ok (.aload_n 0, 1) := by decide +kernel
theorem dX7_extreme_63 : decode cX7_extreme 63 = .ok (.getfield 7, 3) := by decide +kernel
theorem dX7_extreme_66 : decode cX7_extreme 66 = .ok (.bipush 49, 2) := by decide +kernel
theorem dX7_extreme_68 : decode cX7_extreme 68 = .ok (.iload 5, 2) := by decide +kernel
theorem dX7_extreme_70 : decode cX7_extreme 70 = .ok (.iadd, 1) := by decide +kernel
theorem dX7_extreme_71 : decode cX7_extreme 71 = .ok (.iaload, 1) := by decide +kernel
theorem dX7_extreme_72 : decode cX7_extreme 72 = .ok (.istore 6, 2) := by decide +kernel
theorem dX7_extreme_74 : decode cX7_extreme 74 = .ok (.iload_n 2, 1) := by decide +kernel
theorem dX7_extreme_75 : decode cX7_extreme 75 = .ok (.ifCond .eq 10, 3) := by decide +kernel
theorem dX7_extreme_78 : decode cX7_extreme 78 = .ok (.iload 5, 2) := by decide +kernel
theorem dX7_extreme_80 : decode cX7_extreme 80 = .ok (.iconst 4, 1) := by decide +kernel
theorem dX7_extreme_81 : decode cX7_extreme 81 = .ok (.idiv, 1) := by decide +kernel
theorem dX7_extreme_82 : decode cX7_extreme 82 = .ok (.goto 7, 3) := by decide +kernel
theorem dX7_extreme_85 : decode cX7_extreme 85 = .ok (.iload 5, 2) := by decide +kernel
theorem dX7_extreme_87 : decode cX7_extreme 87 = .ok (.iconst 4, 1) := by decide +kernel
theorem dX7_extreme_88 : decode cX7_extreme 88 = .ok (.irem, 1) := by decide +kernel
theorem dX7_extreme_89 : decode cX7_extreme 89 = .ok (.iload_n 1, 1) := by decide +kernel
theorem dX7_extreme_90 : decode cX7_extreme 90 = .ok (.if_icmp .ne 33, 3) := by decide +kernel
theorem dX7_extreme_93 : decode cX7_extreme 93 = .ok (.iload_n 3, 1) := by decide +kernel
theorem dX7_extreme_94 : decode cX7_extreme 94 = .ok (.ifCond .eq 20, 3) := by decide +kernel
theorem dX7_extreme_97 : decode cX7_extreme 97 = .ok (.iload 6, 2) := by decide +kernel
theorem dX7_extreme_99 : decode cX7_extreme 99 = .ok (.iload 4, 2) := by decide +kernel
theorem dX7_extreme_101 : decode cX7_extreme 101 = .ok (.if_icmp .le 8, 3) := by decide +kernel
theorem dX7_extreme_104 : decode cX7_extreme 104 = .ok (.iload 6, 2) := by decide +kernel
theorem dX7_extreme_106 : decode cX7_extreme 106 = .ok (.goto 15, 3) := by decide +kernel
theorem dX7_extreme_109 : decode cX7_extreme 109 = .ok (.iload 4, 2) := by decide +kernel
theorem dX7_extreme_111 : decode cX7_extreme 111 = .ok (.goto 10, 3) := by decide +kernel
theorem dX7_extreme_114 : decode cX7_extreme 114 = .ok (.iload 4, 2) := by decide +kernel
theorem dX7_extreme_116 : decode cX7_extreme 116 = .ok (.iload 6, 2) := by decide +kernel
theorem dX7_extreme_118 : decode cX7_extreme 118 = .ok (.invokestatic 53, 3) := by decide +kernel
theorem dX7_extreme_121 : decode cX7_extreme 121 = .ok (.istore 4, 2) := by decide +kernel
theorem dX7_extreme_123 : decode cX7_extreme 123 = .ok (.iinc 5 1, 3) := by decide +kernel
theorem dX7_extreme_126 : decode cX7_extreme 126 = .ok (.goto (-71), 3) := by decide +kernel
theorem dX7_extreme_129 : decode cX7_extreme 129 = .ok (.iload 4, 2) := by decide +kernel
theorem dX7_extreme_131 : decode cX7_extreme 131 = .ok (.ireturn, 1) := by decide +kernel
theorem dX7_events_0 : decode cX7_events 0 = .ok (.aload_n 0, 1) := by decide +kernel
theorem dX7_events_1 : decode cX7_events 1 = .ok (.iconst 0, 1) := by decide +kernel
theorem dX7_events_2 : decode cX7_events 2 = .ok (.putfield 27, 3) := by decide +kernel
theorem dX7_events_5 : decode cX7_events 5 = .ok (.aload_n 0, 1) := by decide +kernel
theorem dX7_events_6 : decode cX7_events 6 = .ok (.getfield 7, 3) := by decide +kernel
theorem dX7_events_9 : decode cX7_events 9 = .ok (.bipush 73, 2) := by decide +kernel
theorem dX7_events_11 : decode cX7_events 11 = .ok (.iaload, 1) := by decide +kernel
theorem dX7_events_12 : decode cX7_events 12 = .ok (.ireturn, 1) := by decide +kernel
theorem dX7_event_0 : decode cX7_event 0 = .ok (.aload_n 0, 1) := by decide +kernel
theorem dX7_event_1 : decode cX7_event 1 = .ok (.iload_n 1, 1) := by decide +kernel
theorem dX7_event_2 : decode cX7_event 2 = .ok (.iconst 0, 1) := by decide +kernel
theorem dX7_event_3 : decode cX7_event 3 = .ok (.aload_n 0, 1) := by decide +kernel
theorem dX7_event_4 : decode cX7_event 4 = .ok (.getfield 7, 3) := by decide +kernel
theorem dX7_event_7 : decode cX7_event 7 = .ok (.bipush 73, 2) := by decide +kernel
theorem dX7_event_9 : decode cX7_event 9 = .ok (.iaload, 1) := by decide +kernel
theorem dX7_event_10 : decode cX7_event 10 = .ok (.iconst 1, 1) := by decide +kernel
theorem dX7_event_11 : decode cX7_event 11 = .ok (.isub, 1) := by decide +kernel
theorem dX7_event_12 : decode cX7_event 12 = .ok (.invokestatic 38, 3) := by decide +kernel
theorem dX7_event_15 : decode cX7_event 15 = .ok (.ifCond .ne 7, 3) := by decide +kernel
theorem dX7_event_18 : decode cX7_event 18 = .ok (.iconst 1, 1) := by decide +kernel
theorem dX7_event_19 : decode cX7_event 19 = .ok (.goto 17, 3) := by decide +kernel
theorem dX7_event_22 : decode cX7_event 22 = .ok (.iload_n 2, 1) := by decide +kernel
theorem dX7_event_23 : decode cX7_event 23 = .ok (.iconst 0, 1) := by decide +kernel
theorem dX7_event_24 : decode cX7_event 24 = .ok (.iconst 2, 1) := by decide +kernel
theorem dX7_event_25 : decode cX7_event 25 = .ok (.invokestatic 38, 3) := by decide +kernel
theorem dX7_event_28 : decode cX7_event 28 = .ok (.ifCond .eq 7, 3) := by decide +kernel
theorem dX7_event_31 : decode cX7_event 31 = .ok (.iconst 0, 1) := by decide +kernel
theorem dX7_event_32 : decode cX7_event 32 = .ok (.goto 4, 3) := by decide +kernel
theorem dX7_event_35 : decode cX7_event 35 = .ok (.iconst 2, 1) := by decide +kernel
theorem dX7_event_36 : decode cX7_event 36 = .ok (.invokevirtual 34, 3) := by decide +kernel
theorem dX7_event_39 : decode cX7_event 39 = .ok (.ifCond .eq 7, 3) := by decide +kernel
theorem dX7_event_42 : decode cX7_event 42 = .ok (.iconst 0, 1) := by decide +kernel
theorem dX7_event_43 : decode cX7_event 43 = .ok (.goto 16, 3) := by decide +kernel
theorem dX7_event_46 : decode cX7_event 46 = .ok (.aload_n 0, 1) := by decide +kernel
theorem dX7_event_47 : decode cX7_event 47 = .ok (.getfield 7, 3) := by decide +kernel
theorem dX7_event_50 : decode cX7_event 50 = .ok (.bipush 74, 2) := by decide +kernel
theorem dX7_event_52 : decode cX7_event 52 = .ok (.iconst 3, 1) := by decide +kernel
theorem dX7_event_53 : decode cX7_event 53 = .ok (.iload_n 1, 1) := by decide +kernel
theorem dX7_event_54 : decode cX7_event 54 = .ok (.imul, 1) := by decide +kernel
theorem dX7_event_55 : decode cX7_event 55 = .ok (.iadd, 1) := by decide +kernel
theorem dX7_event_56 : decode cX7_event 56 = .ok (.iload_n 2, 1) := by decide +kernel
theorem dX7_event_57 : decode cX7_event 57 = .ok (.iadd, 1) := by decide +kernel
theorem dX7_event_58 : decode cX7_event 58 = .ok (.iaload, 1) := by decide +kernel
theorem dX7_event_59 : decode cX7_event 59 = .ok (.ireturn, 1) := by decide +kernel
theorem dX7_eventsOf_0 : decode cX7_eventsOf 0 = .ok (.aload_n 0, 1) := by decide +kernel
theorem dX7_eventsOf_1 : decode cX7_eventsOf 1 = .ok (.iload_n 1, 1) := by decide +kernel
theorem dX7_eventsOf_2 : decode cX7_eventsOf 2 = .ok (.iconst 0, 1) := by decide +kernel
theorem dX7_eventsOf_3 : decode cX7_eventsOf 3 = .ok (.iconst 4, 1) := by decide +kernel
theorem dX7_eventsOf_4 : decode cX7_eventsOf 4 = .ok (.invokestatic 38, 3) := by decide +kernel
theorem dX7_eventsOf_7 : decode cX7_eventsOf 7 = .ok (.ifCond .eq 7, 3) := by decide +kernel
theorem dX7_eventsOf_10 : decode cX7_eventsOf 10 = .ok (.iconst 0, 1) := by decide +kernel
theorem dX7_eventsOf_11 : decode cX7_eventsOf 11 = .ok (.goto 4, 3) := by decide +kernel
theorem dX7_eventsOf_14 : decode cX7_eventsOf 14 = .ok (.iconst 1, 1) := by decide +kernel
theorem dX7_eventsOf_15 : decode cX7_eventsOf 15 = .ok (.invokevirtual 34, 3) := by decide +kernel
theorem dX7_eventsOf_18 : decode cX7_eventsOf 18 = .ok (.ifCond .eq 5, 3) := by decide +kernel
theorem dX7_eventsOf_21 : decode cX7_eventsOf 21 = .ok (.iconst 0, 1) := by decide +kernel
theorem dX7_eventsOf_22 : decode cX7_eventsOf 22 = .ok (.ireturn, 1) := by decide +kernel
theorem dX7_eventsOf_23 : decode cX7_eventsOf 23 = .ok (.iconst 0, 1) := by decide +kernel
theorem dX7_eventsOf_24 : decode cX7_eventsOf 24 = .ok (.istore_n 2, 1) := by decide +kernel
theorem dX7_eventsOf_25 : decode cX7_eventsOf 25 = .ok (.iconst 0, 1) := by decide +kernel
theorem dX7_eventsOf_26 : decode cX7_eventsOf 26 = .ok (.istore_n 3, 1) := by decide +kernel
theorem dX7_eventsOf_27 : decode cX7_eventsOf 27 = .ok (.iload_n 3, 1) := by decide +kernel
theorem dX7_eventsOf_28 : decode cX7_eventsOf 28 = .ok (.aload_n 0, 1) := by decide +kernel
theorem dX7_eventsOf_29 : decode cX7_eventsOf 29 = .ok (.getfield 7, 3) := by decide +kernel
theorem dX7_eventsOf_32 : decode cX7_eventsOf 32 = .ok (.bipush 73, 2) := by decide +kernel
theorem dX7_eventsOf_34 : decode cX7_eventsOf 34 = .ok (.iaload, 1) := by decide +kernel
theorem dX7_eventsOf_35 : decode cX7_eventsOf 35 = .ok (.if_icmp .ge 32, 3) := by decide +kernel
theorem dX7_eventsOf_38 : decode cX7_eventsOf 38 = .ok (.iload_n 2, 1) := by decide +kernel
theorem dX7_eventsOf_39 : decode cX7_eventsOf 39 = .ok (.aload_n 0, 1) := by decide +kernel
theorem dX7_eventsOf_40 : decode cX7_eventsOf 40 = .ok (.getfield 7, 3) := by decide +kernel
theorem dX7_eventsOf_43 : decode cX7_eventsOf 43 = .ok (.bipush 74, 2) := by decide +kernel
theorem dX7_eventsOf_45 : decode cX7_eventsOf 45 = .ok (.iconst 3, 1) := by decide +kernel
theorem dX7_eventsOf_46 : decode cX7_eventsOf 46 = .ok (.iload_n 3, 1) := by decide +kernel
theorem dX7_eventsOf_47 : decode cX7_eventsOf 47 = .ok (.imul, 1) := by decide +kernel
theorem dX7_eventsOf_48 : decode cX7_eventsOf 48 = .ok (.iadd, 1) := by decide +kernel
theorem dX7_eventsOf_49 : decode cX7_eventsOf 49 = .ok (.iaload, 1) := by decide +kernel
theorem dX7_eventsOf_50 : decode cX7_eventsOf 50 = .ok (.iload_n 1, 1) := by decide +kernel
theorem dX7_eventsOf_51 : decode cX7_eventsOf 51 = .ok (.if_icmp .ne 7, 3) := by decide +kernel
theorem dX7_eventsOf_54 : decode cX7_eventsOf 54 = .ok (.iconst 1, 1) := by decide +kernel
theorem dX7_eventsOf_55 : decode cX7_eventsOf 55 = .ok (.goto 4, 3) := by decide +kernel
theorem dX7_eventsOf_58 : decode cX7_eventsOf 58 = .ok (.iconst 0, 1) := by decide +kernel
theorem dX7_eventsOf_59 : decode cX7_eventsOf 59 = .ok (.iadd, 1) := by decide +kernel
theorem dX7_eventsOf_60 : decode cX7_eventsOf 60 = .ok (.istore_n 2, 1) := by decide +kernel
theorem dX7_eventsOf_61 : decode cX7_eventsOf 61 = .ok (.iinc 3 1, 3) := by decide +kernel
theorem dX7_eventsOf_64 : decode cX7_eventsOf 64 = .ok (.goto (-37), 3) := by decide +kernel
theorem dX7_eventsOf_67 : decode cX7_eventsOf 67 = .ok (.iload_n 2, 1) := by decide +kernel
theorem dX7_eventsOf_68 : decode cX7_eventsOf 68 = .ok (.ireturn, 1) := by decide +kernel
theorem dX7_limit_0 : decode cX7_limit 0 = .ok (.iload_n 2, 1) := by decide +kernel
theorem dX7_limit_1 : decode cX7_limit 1 = .ok (.iload_n 3, 1) := by decide +kernel
theorem dX7_limit_2 : decode cX7_limit 2 = .ok (.invokestatic 111, 3) := by decide +kernel
theorem dX7_limit_5 : decode cX7_limit 5 = .ok (.ifCond .eq 15, 3) := by decide +kernel
theorem dX7_limit_8 : decode cX7_limit 8 = .ok (.iload 4, 2) := by decide +kernel
theorem dX7_limit_10 : decode cX7_limit 10 = .ok (.invokestatic 114, 3) := by decide +kernel
theorem dX7_limit_13 : decode cX7_limit 13 = .ok (.ifCond .eq 7, 3) := by decide +kernel
theorem dX7_limit_16 : decode cX7_limit 16 = .ok (.iconst 1, 1) := by decide +kernel
theorem dX7_limit_17 : decode cX7_limit 17 = .ok (.goto 4, 3) := by decide +kernel
theorem dX7_limit_20 : decode cX7_limit 20 = .ok (.iconst 0, 1) := by decide +kernel
theorem dX7_limit_21 : decode cX7_limit 21 = .ok (.istore 5, 2) := by decide +kernel
theorem dX7_limit_23 : decode cX7_limit 23 = .ok (.aload_n 0, 1) := by decide +kernel
theorem dX7_limit_24 : decode cX7_limit 24 = .ok (.iload_n 1, 1) := by decide +kernel
theorem dX7_limit_25 : decode cX7_limit 25 = .ok (.iconst (-1), 1) := by decide +kernel
theorem dX7_limit_26 : decode cX7_limit 26 = .ok (.if_icmp .eq 15, 3) := by decide +kernel
theorem dX7_limit_29 : decode cX7_limit 29 = .ok (.aload_n 0, 1) := by decide +kernel
theorem dX7_limit_30 : decode cX7_limit 30 = .ok (.iload_n 1, 1) := by decide +kernel
theorem dX7_limit_31 : decode cX7_limit 31 = .ok (.invokevirtual 120, 3) := by decide +kernel
theorem dX7_limit_34 : decode cX7_limit 34 = .ok (.ifCond .ne 7, 3) := by decide +kernel
theorem dX7_limit_37 : decode cX7_limit 37 = .ok (.iconst 1, 1) := by decide +kernel
theorem dX7_limit_38 : decode cX7_limit 38 = .ok (.goto 13, 3) := by decide +kernel
theorem dX7_limit_41 : decode cX7_limit 41 = .ok (.iload 5, 2) := by decide +kernel
theorem dX7_limit_43 : decode cX7_limit 43 = .ok (.ifCond .eq 7, 3) := by decide +kernel
theorem dX7_limit_46 : decode cX7_limit 46 = .ok (.iconst 0, 1) := by decide +kernel
theorem dX7_limit_47 : decode cX7_limit 47 = .ok (.goto 4, 3) := by decide +kernel
theorem dX7_limit_50 : decode cX7_limit 50 = .ok (.iconst 2, 1) := by decide +kernel
theorem dX7_limit_51 : decode cX7_limit 51 = .ok (.invokevirtual 34, 3) := by decide +kernel
theorem dX7_limit_54 : decode cX7_limit 54 = .ok (.ifCond .eq 5, 3) := by decide +kernel
theorem dX7_limit_57 : decode cX7_limit 57 = .ok (.iconst 0, 1) := by decide +kernel
theorem dX7_limit_58 : decode cX7_limit 58 = .ok (.ireturn, 1) := by decide +kernel
theorem dX7_limit_59 : decode cX7_limit 59 = .ok (.iload_n 2, 1) := by decide +kernel
theorem dX7_limit_60 : decode cX7_limit 60 = .ok (.iload_n 3, 1) := by decide +kernel
theorem dX7_limit_61 : decode cX7_limit 61 = .ok (.iload 4, 2) := by decide +kernel
theorem dX7_limit_63 : decode cX7_limit 63 = .ok (.invokestatic 104, 3) := by decide +kernel
theorem dX7_limit_66 : decode cX7_limit 66 = .ok (.istore 6, 2) := by decide +kernel
theorem dX7_limit_68 : decode cX7_limit 68 = .ok (.iload_n 1, 1) := by decide +kernel
theorem dX7_limit_69 : decode cX7_limit 69 = .ok (.iconst (-1), 1) := by decide +kernel
theorem dX7_limit_70 : decode cX7_limit 70 = .ok (.if_icmp .ne 8, 3) := by decide +kernel
theorem dX7_limit_73 : decode cX7_limit 73 = .ok (.iload 6, 2) := by decide +kernel
theorem dX7_limit_75 : decode cX7_limit 75 = .ok (.goto 13, 3) := by decide +kernel
theorem dX7_limit_78 : decode cX7_limit 78 = .ok (.aload_n 0, 1) := by decide +kernel
theorem dX7_limit_79 : decode cX7_limit 79 = .ok (.iload_n 1, 1) := by decide +kernel
theorem dX7_limit_80 : decode cX7_limit 80 = .ok (.iload_n 2, 1) := by decide +kernel
theorem dX7_limit_81 : decode cX7_limit 81 = .ok (.iload_n 3, 1) := by decide +kernel
theorem dX7_limit_82 : decode cX7_limit 82 = .ok (.invokevirtual 100, 3) := by decide +kernel
theorem dX7_limit_85 : decode cX7_limit 85 = .ok (.iload 6, 2) := by decide +kernel
theorem dX7_limit_87 : decode cX7_limit 87 = .ok (.isub, 1) := by decide +kernel
theorem dX7_limit_88 : decode cX7_limit 88 = .ok (.ireturn, 1) := by decide +kernel
theorem dX7_quietAfter_0 : decode cX7_quietAfter 0 = .ok (.aload_n 0, 1) := by decide +kernel
theorem dX7_quietAfter_1 : decode cX7_quietAfter 1 = .ok (.iload_n 1, 1) := by decide +kernel
theorem dX7_quietAfter_2 : decode cX7_quietAfter 2 = .ok (.iload_n 2, 1) := by decide +kernel
theorem dX7_quietAfter_3 : decode cX7_quietAfter 3 = .ok (.invokestatic 111, 3) := by decide +kernel
theorem dX7_quietAfter_6 : decode cX7_quietAfter 6 = .ok (.ifCond .eq 14, 3) := by decide +kernel
theorem dX7_quietAfter_9 : decode cX7_quietAfter 9 = .ok (.iload_n 3, 1) := by decide +kernel
theorem dX7_quietAfter_10 : decode cX7_quietAfter 10 = .ok (.invokestatic 114, 3) := by decide +kernel
theorem dX7_quietAfter_13 : decode cX7_quietAfter 13 = .ok (.ifCond .eq 7, 3) := by decide +kernel
theorem dX7_quietAfter_16 : decode cX7_quietAfter 16 = .ok (.iconst 0, 1) := by decide +kernel
theorem dX7_quietAfter_17 : decode cX7_quietAfter 17 = .ok (.goto 4, 3) := by decide +kernel
theorem dX7_quietAfter_20 : decode cX7_quietAfter 20 = .ok (.iconst 1, 1) := by decide +kernel
theorem dX7_quietAfter_21 : decode cX7_quietAfter 21 = .ok (.invokevirtual 34, 3) := by decide +kernel
theorem dX7_quietAfter_24 : decode cX7_quietAfter 24 = .ok (.ifCond .eq 5, 3) := by decide +kernel
theorem dX7_quietAfter_27 : decode cX7_quietAfter 27 = .ok (.iconst 0, 1) := by decide +kernel
theorem dX7_quietAfter_28 : decode cX7_quietAfter 28 = .ok (.ireturn, 1) := by decide +kernel
theorem dX7_quietAfter_29 : decode cX7_quietAfter 29 = .ok (.aload_n 0, 1) := by decide +kernel
theorem dX7_quietAfter_30 : decode cX7_quietAfter 30 = .ok (.invokevirtual 136, 3) := by decide +kernel
theorem dX7_quietAfter_33 : decode cX7_quietAfter 33 = .ok (.iconst 0, 1) := by decide +kernel
theorem dX7_quietAfter_34 : decode cX7_quietAfter 34 = .ok (.istore 4, 2) := by decide +kernel
theorem dX7_quietAfter_36 : decode cX7_quietAfter 36 = .ok (.iconst 0, 1) := by decide +kernel
theorem dX7_quietAfter_37 : decode cX7_quietAfter 37 = .ok (.istore 5, 2) := by decide +kernel
theorem dX7_quietAfter_39 : decode cX7_quietAfter 39 = .ok (.iload 5, 2) := by decide +kernel
theorem dX7_quietAfter_41 : decode cX7_quietAfter 41 = .ok (.iconst 5, 1) := by decide +kernel
theorem dX7_quietAfter_42 : decode cX7_quietAfter 42 = .ok (.aload_n 0, 1) := by decide +kernel
theorem dX7_quietAfter_43 : decode cX7_quietAfter 43 = .ok (.getfield 7, 3) := by decide +kernel
theorem dX7_quietAfter_46 : decode cX7_quietAfter 46 = .ok (.bipush 8, 2) := by decide +kernel
theorem dX7_quietAfter_48 : decode cX7_quietAfter 48 = .ok (.iaload, 1) := by decide +kernel
theorem dX7_quietAfter_49 : decode cX7_quietAfter 49 = .ok (.imul, 1) := by decide +kernel
theorem dX7_quietAfter_50 : decode cX7_quietAfter 50 = .ok (.if_icmp .ge 38, 3) := by decide +kernel
theorem dX7_quietAfter_53 : decode cX7_quietAfter 53 = .ok (.iload 4, 2) := by decide +kernel
theorem dX7_quietAfter_55 : decode cX7_quietAfter 55 = .ok (.sipush 1000, 3) := by decide +kernel
theorem dX7_quietAfter_58 : decode cX7_quietAfter 58 = .ok (.if_icmp .ge 30, 3) := by decide +kernel
theorem dX7_quietAfter_61 : decode cX7_quietAfter 61 = .ok (.aload_n 0, 1) := by decide +kernel
theorem dX7_quietAfter_62 : decode cX7_quietAfter 62 = .ok (.iload_n 1, 1) := by decide +kernel
theorem dX7_quietAfter_63 : decode cX7_quietAfter 63 = .ok (.iload_n 2, 1) := by decide +kernel
theorem dX7_quietAfter_64 : decode cX7_quietAfter 64 = .ok (.iload_n 3, 1) := by decide +kernel
theorem dX7_quietAfter_65 : decode cX7_quietAfter 65 = .ok (.invokevirtual 117, 3) := by decide +kernel
theorem dX7_quietAfter_68 : decode cX7_quietAfter 68 = .ok (.iconst 1, 1) := by decide +kernel
theorem dX7_quietAfter_69 : decode cX7_quietAfter 69 = .ok (.if_icmp .ne 7, 3) := by decide +kernel
theorem dX7_quietAfter_72 : decode cX7_quietAfter 72 = .ok (.iconst 0, 1) := by decide +kernel
theorem dX7_quietAfter_73 : decode cX7_quietAfter 73 = .ok (.goto 7, 3) := by decide +kernel
theorem dX7_quietAfter_76 : decode cX7_quietAfter 76 = .ok (.iload 5, 2) := by decide +kernel
theorem dX7_quietAfter_78 : decode cX7_quietAfter 78 = .ok (.iconst 1, 1) := by decide +kernel
theorem dX7_quietAfter_79 : decode cX7_quietAfter 79 = .ok (.iadd, 1) := by decide +kernel
theorem dX7_quietAfter_80 : decode cX7_quietAfter 80 = .ok (.istore 5, 2) := by decide +kernel
theorem dX7_quietAfter_82 : decode cX7_quietAfter 82 = .ok (.iinc 4 1, 3) := by decide +kernel
theorem dX7_quietAfter_85 : decode cX7_quietAfter 85 = .ok (.goto (-46), 3) := by decide +kernel
theorem dX7_quietAfter_88 : decode cX7_quietAfter 88 = .ok (.iload 5, 2) := by decide +kernel
theorem dX7_quietAfter_90 : decode cX7_quietAfter 90 = .ok (.iconst 5, 1) := by decide +kernel
theorem dX7_quietAfter_91 : decode cX7_quietAfter 91 = .ok (.aload_n 0, 1) := by decide +kernel
theorem dX7_quietAfter_92 : decode cX7_quietAfter 92 = .ok (.getfield 7, 3) := by decide +kernel
theorem dX7_quietAfter_95 : decode cX7_quietAfter 95 = .ok (.bipush 8, 2) := by decide +kernel
theorem dX7_quietAfter_97 : decode cX7_quietAfter 97 = .ok (.iaload, 1) := by decide +kernel
theorem dX7_quietAfter_98 : decode cX7_quietAfter 98 = .ok (.imul, 1) := by decide +kernel
theorem dX7_quietAfter_99 : decode cX7_quietAfter 99 = .ok (.if_icmp .ne 7, 3) := by decide +kernel
theorem dX7_quietAfter_102 : decode cX7_quietAfter 102 = .ok (.iconst 1, 1) := by decide +kernel
theorem dX7_quietAfter_103 : decode cX7_quietAfter 103 = .ok (.goto 4, 3) := by decide +kernel
theorem dX7_quietAfter_106 : decode cX7_quietAfter 106 = .ok (.iconst 0, 1) := by decide +kernel
theorem dX7_quietAfter_107 : decode cX7_quietAfter 107 = .ok (.istore 6, 2) := by decide +kernel
theorem dX7_quietAfter_109 : decode cX7_quietAfter 109 = .ok (.aload_n 0, 1) := by decide +kernel
theorem dX7_quietAfter_110 : decode cX7_quietAfter 110 = .ok (.invokevirtual 139, 3) := by decide +kernel
theorem dX7_quietAfter_113 : decode cX7_quietAfter 113 = .ok (.iload 6, 2) := by decide +kernel
theorem dX7_quietAfter_115 : decode cX7_quietAfter 115 = .ok (.ifCond .eq 8, 3) := by decide +kernel
theorem dX7_quietAfter_118 : decode cX7_quietAfter 118 = .ok (.iload 4, 2) := by decide +kernel
theorem dX7_quietAfter_120 : decode cX7_quietAfter 120 = .ok (.goto 4, 3) := by decide +kernel
theorem dX7_quietAfter_123 : decode cX7_quietAfter 123 = .ok (.iconst (-1), 1) := by decide +kernel
theorem dX7_quietAfter_124 : decode cX7_quietAfter 124 = .ok (.ireturn, 1) := by decide +kernel
theorem dX7_lowestOctane_0 : decode cX7_lowestOctane 0 = .ok (.aload_n 0, 1) := by decide +kernel
theorem dX7_lowestOctane_1 : decode cX7_lowestOctane 1 = .ok (.iload_n 1, 1) := by decide +kernel
theorem dX7_lowestOctane_2 : decode cX7_lowestOctane 2 = .ok (.iload_n 2, 1) := by decide +kernel
theorem dX7_lowestOctane_3 : decode cX7_lowestOctane 3 = .ok (.invokestatic 111, 3) := by decide +kernel
theorem dX7_lowestOctane_6 : decode cX7_lowestOctane 6 = .ok (.ifCond .eq 17, 3) := by decide +kernel
theorem dX7_lowestOctane_9 : decode cX7_lowestOctane 9 = .ok (.iload_n 3, 1) := by decide +kernel
theorem dX7_lowestOctane_10 : decode cX7_lowestOctane 10 = .ok (.iconst 1, 1) := by decide +kernel
theorem dX7_lowestOctane_11 : decode cX7_lowestOctane 11 = .ok (.bipush 100, 2) := by decide +kernel
theorem dX7_lowestOctane_13 : decode cX7_lowestOctane 13 = .ok (.invokestatic 38, 3) := by decide +kernel
theorem dX7_lowestOctane_16 : decode cX7_lowestOctane 16 = .ok (.ifCond .eq 7, 3) := by decide +kernel
theorem dX7_lowestOctane_19 : decode cX7_lowestOctane 19 = .ok (.iconst 0, 1) := by decide +kernel
theorem dX7_lowestOctane_20 : decode cX7_lowestOctane 20 = .ok (.goto 4, 3) := by decide +kernel
theorem dX7_lowestOctane_23 : decode cX7_lowestOctane 23 = .ok (.iconst 1, 1) := by decide +kernel
theorem dX7_lowestOctane_24 : decode cX7_lowestOctane 24 = .ok (.invokevirtual 34, 3) := by decide +kernel
theorem dX7_lowestOctane_27 : decode cX7_lowestOctane 27 = .ok (.ifCond .eq 5, 3) := by decide +kernel
theorem dX7_lowestOctane_30 : decode cX7_lowestOctane 30 = .ok (.iconst 0, 1) := by decide +kernel
theorem dX7_lowestOctane_31 : decode cX7_lowestOctane 31 = .ok (.ireturn, 1) := by decide +kernel
theorem dX7_lowestOctane_32 : decode cX7_lowestOctane 32 = .ok (.aload_n 0, 1) := by decide +kernel
theorem dX7_lowestOctane_33 : decode cX7_lowestOctane 33 = .ok (.invokevirtual 136, 3) := by decide +kernel
theorem dX7_lowestOctane_36 : decode cX7_lowestOctane 36 = .ok (.iconst (-1), 1) := by decide +kernel
theorem dX7_lowestOctane_37 : decode cX7_lowestOctane 37 = .ok (.istore 4, 2) := by decide +kernel
theorem dX7_lowestOctane_39 : decode cX7_lowestOctane 39 = .ok (.bipush 80, 2) := by decide +kernel
theorem dX7_lowestOctane_41 : decode cX7_lowestOctane 41 = .ok (.istore 5, 2) := by decide +kernel
theorem dX7_lowestOctane_43 : decode cX7_lowestOctane 43 = .ok (.iload 5, 2) := by decide +kernel
theorem dX7_lowestOctane_45 : decode cX7_lowestOctane 45 = .ok (.bipush 110, 2) := by decide +kernel
theorem dX7_lowestOctane_47 : decode cX7_lowestOctane 47 = .ok (.if_icmp .gt 60, 3) := by decide +kernel
theorem dX7_lowestOctane_50 : decode cX7_lowestOctane 50 = .ok (.iload 4, 2) := by decide +kernel
theorem dX7_lowestOctane_52 : decode cX7_lowestOctane 52 = .ok (.iconst (-1), 1) := by decide +kernel
theorem dX7_lowestOctane_53 : decode cX7_lowestOctane 53 = .ok (.if_icmp .ne 54, 3) := by decide +kernel
theorem dX7_lowestOctane_56 : decode cX7_lowestOctane 56 = .ok (.iconst 0, 1) := by decide +kernel
theorem dX7_lowestOctane_57 : decode cX7_lowestOctane 57 = .ok (.istore 6, 2) := by decide +kernel
theorem dX7_lowestOctane_59 : decode cX7_lowestOctane 59 = .ok (.iload 6, 2) := by decide +kernel
theorem dX7_lowestOctane_61 : decode cX7_lowestOctane 61 = .ok (.iload_n 3, 1) := by decide +kernel
theorem dX7_lowestOctane_62 : decode cX7_lowestOctane 62 = .ok (.if_icmp .ge 21, 3) := by decide +kernel
theorem dX7_lowestOctane_65 : decode cX7_lowestOctane 65 = .ok (.aload_n 0, 1) := by decide +kernel
theorem dX7_lowestOctane_66 : decode cX7_lowestOctane 66 = .ok (.iload_n 1, 1) := by decide +kernel
theorem dX7_lowestOctane_67 : decode cX7_lowestOctane 67 = .ok (.iload_n 2, 1) := by decide +kernel
theorem dX7_lowestOctane_68 : decode cX7_lowestOctane 68 = .ok (.iload 5, 2) := by decide +kernel
theorem dX7_lowestOctane_70 : decode cX7_lowestOctane 70 = .ok (.invokevirtual 117, 3) := by decide +kernel
theorem dX7_lowestOctane_73 : decode cX7_lowestOctane 73 = .ok (.iconst 1, 1) := by decide +kernel
theorem dX7_lowestOctane_74 : decode cX7_lowestOctane 74 = .ok (.if_icmp .eq 9, 3) := by decide +kernel
theorem dX7_lowestOctane_77 : decode cX7_lowestOctane 77 = .ok (.iinc 6 1, 3) := by decide +kernel
theorem dX7_lowestOctane_80 : decode cX7_lowestOctane 80 = .ok (.goto (-21), 3) := by decide +kernel
theorem dX7_lowestOctane_83 : decode cX7_lowestOctane 83 = .ok (.iload 6, 2) := by decide +kernel
theorem dX7_lowestOctane_85 : decode cX7_lowestOctane 85 = .ok (.iload_n 3, 1) := by decide +kernel
theorem dX7_lowestOctane_86 : decode cX7_lowestOctane 86 = .ok (.if_icmp .ne 8, 3) := by decide +kernel
theorem dX7_lowestOctane_89 : decode cX7_lowestOctane 89 = .ok (.iload 5, 2) := by decide +kernel
theorem dX7_lowestOctane_91 : decode cX7_lowestOctane 91 = .ok (.goto 4, 3) := by decide +kernel
theorem dX7_lowestOctane_94 : decode cX7_lowestOctane 94 = .ok (.iconst (-1), 1) := by decide +kernel
theorem dX7_lowestOctane_95 : decode cX7_lowestOctane 95 = .ok (.istore 4, 2) := by decide +kernel
theorem dX7_lowestOctane_97 : decode cX7_lowestOctane 97 = .ok (.aload_n 0, 1) := by decide +kernel
theorem dX7_lowestOctane_98 : decode cX7_lowestOctane 98 = .ok (.invokevirtual 139, 3) := by decide +kernel
theorem dX7_lowestOctane_101 : decode cX7_lowestOctane 101 = .ok (.iinc 5 1, 3) := by decide +kernel
theorem dX7_lowestOctane_104 : decode cX7_lowestOctane 104 = .ok (.goto (-61), 3) := by decide +kernel
theorem dX7_lowestOctane_107 : decode cX7_lowestOctane 107 = .ok (.iload 4, 2) := by decide +kernel
theorem dX7_lowestOctane_109 : decode cX7_lowestOctane 109 = .ok (.ireturn, 1) := by decide +kernel
theorem dX7_append_0 : decode cX7_append 0 = .ok (.aload_n 0, 1) := by decide +kernel
theorem dX7_append_1 : decode cX7_append 1 = .ok (.iload_n 1, 1) := by decide +kernel
theorem dX7_append_2 : decode cX7_append 2 = .ok (.iconst 0, 1) := by decide +kernel
theorem dX7_append_3 : decode cX7_append 3 = .ok (.bipush 127, 2) := by decide +kernel
theorem dX7_append_5 : decode cX7_append 5 = .ok (.invokestatic 38, 3) := by decide +kernel
theorem dX7_append_8 : decode cX7_append 8 = .ok (.ifCond .ne 7, 3) := by decide +kernel
theorem dX7_append_11 : decode cX7_append 11 = .ok (.iconst 1, 1) := by decide +kernel
theorem dX7_append_12 : decode cX7_append 12 = .ok (.goto 17, 3) := by decide +kernel
theorem dX7_append_15 : decode cX7_append 15 = .ok (.aload_n 0, 1) := by decide +kernel
theorem dX7_append_16 : decode cX7_append 16 = .ok (.getfield 142, 3) := by decide +kernel
theorem dX7_append_19 : decode cX7_append 19 = .ok (.bipush 120, 2) := by decide +kernel
theorem dX7_append_21 : decode cX7_append 21 = .ok (.if_icmp .ne 7, 3) := by decide +kernel
theorem dX7_append_24 : decode cX7_append 24 = .ok (.iconst 2, 1) := by decide +kernel
theorem dX7_append_25 : decode cX7_append 25 = .ok (.goto 4, 3) := by decide +kernel
theorem dX7_append_28 : decode cX7_append 28 = .ok (.iconst 0, 1) := by decide +kernel
theorem dX7_append_29 : decode cX7_append 29 = .ok (.invokevirtual 34, 3) := by decide +kernel
theorem dX7_append_32 : decode cX7_append 32 = .ok (.ifCond .eq 5, 3) := by decide +kernel
theorem dX7_append_35 : decode cX7_append 35 = .ok (.iconst 0, 1) := by decide +kernel
theorem dX7_append_36 : decode cX7_append 36 = .ok (.ireturn, 1) := by decide +kernel
theorem dX7_append_37 : decode cX7_append 37 = .ok (.aload_n 0, 1) := by decide +kernel
theorem dX7_append_38 : decode cX7_append 38 = .ok (.getfield 19, 3) := by decide +kernel
theorem dX7_append_41 : decode cX7_append 41 = .ok (.aload_n 0, 1) := by decide +kernel
theorem dX7_append_42 : decode cX7_append 42 = .ok (.getfield 142, 3) := by decide +kernel
theorem dX7_append_45 : decode cX7_append 45 = .ok (.iload_n 1, 1) := by decide +kernel
theorem dX7_append_46 : decode cX7_append 46 = .ok (.iastore, 1) := by decide +kernel
theorem dX7_append_47 : decode cX7_append 47 = .ok (.aload_n 0, 1) := by decide +kernel
theorem dX7_append_48 : decode cX7_append 48 = .ok (.dup, 1) := by decide +kernel
theorem dX7_append_49 : decode cX7_append 49 = .ok (.getfield 142, 3) := by decide +kernel
theorem dX7_append_52 : decode cX7_append 52 = .ok (.iconst 1, 1) := by decide +kernel
theorem dX7_append_53 : decode cX7_append 53 = .ok (.iadd, 1) := by decide +kernel
theorem dX7_append_54 : decode cX7_append 54 = .ok (.putfield 142, 3) := by decide +kernel
theorem dX7_append_57 : decode cX7_append 57 = .ok (.aload_n 0, 1) := by decide +kernel
theorem dX7_append_58 : decode cX7_append 58 = .ok (.getfield 142, 3) := by decide +kernel
theorem dX7_append_61 : decode cX7_append 61 = .ok (.ireturn, 1) := by decide +kernel
theorem dX7_clearText_0 : decode cX7_clearText 0 = .ok (.aload_n 0, 1) := by decide +kernel
theorem dX7_clearText_1 : decode cX7_clearText 1 = .ok (.iconst 0, 1) := by decide +kernel
theorem dX7_clearText_2 : decode cX7_clearText 2 = .ok (.putfield 27, 3) := by decide +kernel
theorem dX7_clearText_5 : decode cX7_clearText 5 = .ok (.aload_n 0, 1) := by decide +kernel
theorem dX7_clearText_6 : decode cX7_clearText 6 = .ok (.getfield 142, 3) := by decide +kernel
theorem dX7_clearText_9 : decode cX7_clearText 9 = .ok (.istore_n 1, 1) := by decide +kernel
theorem dX7_clearText_10 : decode cX7_clearText 10 = .ok (.aload_n 0, 1) := by decide +kernel
theorem dX7_clearText_11 : decode cX7_clearText 11 = .ok (.iconst 0, 1) := by decide +kernel
theorem dX7_clearText_12 : decode cX7_clearText 12 = .ok (.putfield 142, 3) := by decide +kernel
theorem dX7_clearText_15 : decode cX7_clearText 15 = .ok (.iload_n 1, 1) := by decide +kernel
theorem dX7_clearText_16 : decode cX7_clearText 16 = .ok (.ireturn, 1) := by decide +kernel
theorem dX7_isDigit_0 : decode cX7_isDigit 0 = .ok (.aload_n 0, 1) := by decide +kernel
theorem dX7_isDigit_1 : decode cX7_isDigit 1 = .ok (.getfield 145, 3) := by decide +kernel
theorem dX7_isDigit_4 : decode cX7_isDigit 4 = .ok (.aload_n 0, 1) := by decide +kernel
theorem dX7_isDigit_5 : decode cX7_isDigit 5 = .ok (.getfield 142, 3) := by decide +kernel
theorem dX7_isDigit_8 : decode cX7_isDigit 8 = .ok (.if_icmp .ge 26, 3) := by decide +kernel
theorem dX7_isDigit_11 : decode cX7_isDigit 11 = .ok (.aload_n 0, 1) := by decide +kernel
theorem dX7_isDigit_12 : decode cX7_isDigit 12 = .ok (.getfield 19, 3) := by decide +kernel
theorem dX7_isDigit_15 : decode cX7_isDigit 15 = .ok (.aload_n 0, 1) := by decide +kernel
theorem dX7_isDigit_16 : decode cX7_isDigit 16 = .ok (.getfield 145, 3) := by decide +kernel
theorem dX7_isDigit_19 : decode cX7_isDigit 19 = .ok (.iaload, 1) := by decide +kernel
theorem dX7_isDigit_20 : decode cX7_isDigit 20 = .ok (.bipush 48, 2) := by decide +kernel
theorem dX7_isDigit_22 : decode cX7_isDigit 22 = .ok (.bipush 57, 2) := by decide +kernel
theorem dX7_isDigit_24 : decode cX7_isDigit 24 = .ok (.invokestatic 38, 3) := by decide +kernel
theorem dX7_isDigit_27 : decode cX7_isDigit 27 = .ok (.ifCond .eq 7, 3) := by decide +kernel
theorem dX7_isDigit_30 : decode cX7_isDigit 30 = .ok (.iconst 1, 1) := by decide +kernel
theorem dX7_isDigit_31 : decode cX7_isDigit 31 = .ok (.goto 4, 3) := by decide +kernel
theorem dX7_isDigit_34 : decode cX7_isDigit 34 = .ok (.iconst 0, 1) := by decide +kernel
theorem dX7_isDigit_35 : decode cX7_isDigit 35 = .ok (.ireturn, 1) := by decide +kernel
theorem dX7_reads_0 : decode cX7_reads 0 = .ok (.aload_n 0, 1) := by decide +kernel
theorem dX7_reads_1 : decode cX7_reads 1 = .ok (.getfield 145, 3) := by decide +kernel
theorem dX7_reads_4 : decode cX7_reads 4 = .ok (.istore_n 2, 1) := by decide +kernel
theorem dX7_reads_5 : decode cX7_reads 5 = .ok (.aload_n 0, 1) := by decide +kernel
theorem dX7_reads_6 : decode cX7_reads 6 = .ok (.iconst 0, 1) := by decide +kernel
theorem dX7_reads_7 : decode cX7_reads 7 = .ok (.putfield 148, 3) := by decide +kernel
theorem dX7_reads_10 : decode cX7_reads 10 = .ok (.aload_n 0, 1) := by decide +kernel
theorem dX7_reads_11 : decode cX7_reads 11 = .ok (.getfield 145, 3) := by decide +kernel
theorem dX7_reads_14 : decode cX7_reads 14 = .ok (.iload_n 2, 1) := by decide +kernel
theorem dX7_reads_15 : decode cX7_reads 15 = .ok (.isub, 1) := by decide +kernel
theorem dX7_reads_16 : decode cX7_reads 16 = .ok (.iconst 5, 1) := by decide +kernel
theorem dX7_reads_17 : decode cX7_reads 17 = .ok (.if_icmp .ge 47, 3) := by decide +kernel
theorem dX7_reads_20 : decode cX7_reads 20 = .ok (.aload_n 0, 1) := by decide +kernel
theorem dX7_reads_21 : decode cX7_reads 21 = .ok (.invokevirtual 151, 3) := by decide +kernel
theorem dX7_reads_24 : decode cX7_reads 24 = .ok (.ifCond .eq 40, 3) := by decide +kernel
theorem dX7_reads_27 : decode cX7_reads 27 = .ok (.aload_n 0, 1) := by decide +kernel
theorem dX7_reads_28 : decode cX7_reads 28 = .ok (.bipush 10, 2) := by decide +kernel
theorem dX7_reads_30 : decode cX7_reads 30 = .ok (.aload_n 0, 1) := by decide +kernel
theorem dX7_reads_31 : decode cX7_reads 31 = .ok (.getfield 148, 3) := by decide +kernel
theorem dX7_reads_34 : decode cX7_reads 34 = .ok (.imul, 1) := by decide +kernel
theorem dX7_reads_35 : decode cX7_reads 35 = .ok (.aload_n 0, 1) := by decide +kernel
theorem dX7_reads_36 : decode cX7_reads 36 = .ok (.getfield 19, 3) := by decide +kernel
theorem dX7_reads_39 : decode cX7_reads 39 = .ok (.aload_n 0, 1) := by decide +kernel
theorem dX7_reads_40 : decode cX7_reads 40 = .ok (.getfield 145, 3) := by decide +kernel
theorem dX7_reads_43 : decode cX7_reads 43 = .ok (.iaload, 1) := by decide +kernel
theorem dX7_reads_44 : decode cX7_reads 44 = .ok (.iadd, 1) := by decide +kernel
theorem dX7_reads_45 : decode cX7_reads 45 = .ok (.bipush 48, 2) := by decide +kernel
theorem dX7_reads_47 : decode cX7_reads 47 = .ok (.isub, 1) := by decide +kernel
theorem dX7_reads_48 : decode cX7_reads 48 = .ok (.putfield 148, 3) := by decide +kernel
theorem dX7_reads_51 : decode cX7_reads 51 = .ok (.aload_n 0, 1) := by decide +kernel
theorem dX7_reads_52 : decode cX7_reads 52 = .ok (.dup, 1) := by decide +kernel
theorem dX7_reads_53 : decode cX7_reads 53 = .ok (.getfield 145, 3) := by decide +kernel
theorem dX7_reads_56 : decode cX7_reads 56 = .ok (.iconst 1, 1) := by decide +kernel
theorem dX7_reads_57 : decode cX7_reads 57 = .ok (.iadd, 1) := by decide +kernel
theorem dX7_reads_58 : decode cX7_reads 58 = .ok (.putfield 145, 3) := by decide +kernel
theorem dX7_reads_61 : decode cX7_reads 61 = .ok (.goto (-51), 3) := by decide +kernel
theorem dX7_reads_64 : decode cX7_reads 64 = .ok (.aload_n 0, 1) := by decide +kernel
theorem dX7_reads_65 : decode cX7_reads 65 = .ok (.getfield 145, 3) := by decide +kernel
theorem dX7_reads_68 : decode cX7_reads 68 = .ok (.iload_n 2, 1) := by decide +kernel
theorem dX7_reads_69 : decode cX7_reads 69 = .ok (.if_icmp .le 31, 3) := by decide +kernel
theorem dX7_reads_72 : decode cX7_reads 72 = .ok (.aload_n 0, 1) := by decide +kernel
theorem dX7_reads_73 : decode cX7_reads 73 = .ok (.getfield 145, 3) := by decide +kernel
theorem dX7_reads_76 : decode cX7_reads 76 = .ok (.aload_n 0, 1) := by decide +kernel
theorem dX7_reads_77 : decode cX7_reads 77 = .ok (.getfield 142, 3) := by decide +kernel
theorem dX7_reads_80 : decode cX7_reads 80 = .ok (.if_icmp .ge 20, 3) := by decide +kernel
theorem dX7_reads_83 : decode cX7_reads 83 = .ok (.aload_n 0, 1) := by decide +kernel
theorem dX7_reads_84 : decode cX7_reads 84 = .ok (.getfield 19, 3) := by decide +kernel
theorem dX7_reads_87 : decode cX7_reads 87 = .ok (.aload_n 0, 1) := by decide +kernel
theorem dX7_reads_88 : decode cX7_reads 88 = .ok (.getfield 145, 3) := by decide +kernel
theorem dX7_reads_91 : decode cX7_reads 91 = .ok (.iaload, 1) := by decide +kernel
theorem dX7_reads_92 : decode cX7_reads 92 = .ok (.iload_n 1, 1) := by decide +kernel
theorem dX7_reads_93 : decode cX7_reads 93 = .ok (.if_icmp .ne 7, 3) := by decide +kernel
theorem dX7_reads_96 : decode cX7_reads 96 = .ok (.iconst 1, 1) := by decide +kernel
theorem dX7_reads_97 : decode cX7_reads 97 = .ok (.goto 4, 3) := by decide +kernel
theorem dX7_reads_100 : decode cX7_reads 100 = .ok (.iconst 0, 1) := by decide +kernel
theorem dX7_reads_101 : decode cX7_reads 101 = .ok (.istore_n 3, 1) := by decide +kernel
theorem dX7_reads_102 : decode cX7_reads 102 = .ok (.aload_n 0, 1) := by decide +kernel
theorem dX7_reads_103 : decode cX7_reads 103 = .ok (.dup, 1) := by decide +kernel
theorem dX7_reads_104 : decode cX7_reads 104 = .ok (.getfield 145, 3) := by decide +kernel
theorem dX7_reads_107 : decode cX7_reads 107 = .ok (.iload_n 3, 1) := by decide +kernel
theorem dX7_reads_108 : decode cX7_reads 108 = .ok (.ifCond .eq 7, 3) := by decide +kernel
theorem dX7_reads_111 : decode cX7_reads 111 = .ok (.iconst 1, 1) := by decide +kernel
theorem dX7_reads_112 : decode cX7_reads 112 = .ok (.goto 4, 3) := by decide +kernel
theorem dX7_reads_115 : decode cX7_reads 115 = .ok (.iconst 0, 1) := by decide +kernel
theorem dX7_reads_116 : decode cX7_reads 116 = .ok (.iadd, 1) := by decide +kernel
theorem dX7_reads_117 : decode cX7_reads 117 = .ok (.putfield 145, 3) := by decide +kernel
theorem dX7_reads_120 : decode cX7_reads 120 = .ok (.iload_n 3, 1) := by decide +kernel
theorem dX7_reads_121 : decode cX7_reads 121 = .ok (.ireturn, 1) := by decide +kernel
theorem dX7_readsFiring_0 : decode cX7_readsFiring 0 = .ok (.aload_n 0, 1) := by decide +kernel
theorem dX7_readsFiring_1 : decode cX7_readsFiring 1 = .ok (.bipush 32, 2) := by decide +kernel
theorem dX7_readsFiring_3 : decode cX7_readsFiring 3 = .ok (.invokevirtual 155, 3) := by decide +kernel
theorem dX7_readsFiring_6 : decode cX7_readsFiring 6 = .ok (.ifCond .ne 5, 3) := by decide +kernel
theorem dX7_readsFiring_9 : decode cX7_readsFiring 9 = .ok (.iconst 0, 1) := by decide +kernel
theorem dX7_readsFiring_10 : decode cX7_readsFiring 10 = .ok (.ireturn, 1) := by decide +kernel
theorem dX7_readsFiring_11 : decode cX7_readsFiring 11 = .ok (.aload_n 0, 1) := by decide +kernel
theorem dX7_readsFiring_12 : decode cX7_readsFiring 12 = .ok (.aload_n 0, 1) := by decide +kernel
theorem dX7_readsFiring_13 : decode cX7_readsFiring 13 = .ok (.getfield 148, 3) := by decide +kernel
theorem dX7_readsFiring_16 : decode cX7_readsFiring 16 = .ok (.putfield 158, 3) := by decide +kernel
theorem dX7_readsFiring_19 : decode cX7_readsFiring 19 = .ok (.aload_n 0, 1) := by decide +kernel
theorem dX7_readsFiring_20 : decode cX7_readsFiring 20 = .ok (.bipush 32, 2) := by decide +kernel
theorem dX7_readsFiring_22 : decode cX7_readsFiring 22 = .ok (.invokevirtual 155, 3) := by decide +kernel
theorem dX7_readsFiring_25 : decode cX7_readsFiring 25 = .ok (.ifCond .ne 5, 3) := by decide +kernel
theorem dX7_readsFiring_28 : decode cX7_readsFiring 28 = .ok (.iconst 0, 1) := by decide +kernel
theorem dX7_readsFiring_29 : decode cX7_readsFiring 29 = .ok (.ireturn, 1) := by decide +kernel
theorem dX7_readsFiring_30 : decode cX7_readsFiring 30 = .ok (.aload_n 0, 1) := by decide +kernel
theorem dX7_readsFiring_31 : decode cX7_readsFiring 31 = .ok (.aload_n 0, 1) := by decide +kernel
theorem dX7_readsFiring_32 : decode cX7_readsFiring 32 = .ok (.getfield 148, 3) := by decide +kernel
theorem dX7_readsFiring_35 : decode cX7_readsFiring 35 = .ok (.putfield 161, 3) := by decide +kernel
theorem dX7_readsFiring_38 : decode cX7_readsFiring 38 = .ok (.aload_n 0, 1) := by decide +kernel
theorem dX7_readsFiring_39 : decode cX7_readsFiring 39 = .ok (.bipush 59, 2) := by decide +kernel
theorem dX7_readsFiring_41 : decode cX7_readsFiring 41 = .ok (.invokevirtual 155, 3) := by decide +kernel
theorem dX7_readsFiring_44 : decode cX7_readsFiring 44 = .ok (.istore_n 1, 1) := by decide +kernel
theorem dX7_readsFiring_45 : decode cX7_readsFiring 45 = .ok (.aload_n 0, 1) := by decide +kernel
theorem dX7_readsFiring_46 : decode cX7_readsFiring 46 = .ok (.aload_n 0, 1) := by decide +kernel
theorem dX7_readsFiring_47 : decode cX7_readsFiring 47 = .ok (.getfield 148, 3) := by decide +kernel
theorem dX7_readsFiring_50 : decode cX7_readsFiring 50 = .ok (.putfield 164, 3) := by decide +kernel
theorem dX7_readsFiring_53 : decode cX7_readsFiring 53 = .ok (.iload_n 1, 1) := by decide +kernel
theorem dX7_readsFiring_54 : decode cX7_readsFiring 54 = .ok (.ireturn, 1) := by decide +kernel
theorem dX7_replay_0 : decode cX7_replay 0 = .ok (.aload_n 0, 1) := by decide +kernel
theorem dX7_replay_1 : decode cX7_replay 1 = .ok (.iconst 0, 1) := by decide +kernel
theorem dX7_replay_2 : decode cX7_replay 2 = .ok (.putfield 27, 3) := by decide +kernel
theorem dX7_replay_5 : decode cX7_replay 5 = .ok (.aload_n 0, 1) := by decide +kernel
theorem dX7_replay_6 : decode cX7_replay 6 = .ok (.iconst 0, 1) := by decide +kernel
theorem dX7_replay_7 : decode cX7_replay 7 = .ok (.putfield 145, 3) := by decide +kernel
theorem dX7_replay_10 : decode cX7_replay 10 = .ok (.aload_n 0, 1) := by decide +kernel
theorem dX7_replay_11 : decode cX7_replay 11 = .ok (.getfield 145, 3) := by decide +kernel
theorem dX7_replay_14 : decode cX7_replay 14 = .ok (.aload_n 0, 1) := by decide +kernel
theorem dX7_replay_15 : decode cX7_replay 15 = .ok (.getfield 142, 3) := by decide +kernel
theorem dX7_replay_18 : decode cX7_replay 18 = .ok (.if_icmp .ge 18, 3) := by decide +kernel
theorem dX7_replay_21 : decode cX7_replay 21 = .ok (.aload_n 0, 1) := by decide +kernel
theorem dX7_replay_22 : decode cX7_replay 22 = .ok (.invokevirtual 167, 3) := by decide +kernel
theorem dX7_replay_25 : decode cX7_replay 25 = .ok (.ifCond .ne (-15), 3) := by decide +kernel
theorem dX7_replay_28 : decode cX7_replay 28 = .ok (.bipush (-10), 2) := by decide +kernel
theorem dX7_replay_30 : decode cX7_replay 30 = .ok (.aload_n 0, 1) := by decide +kernel
theorem dX7_replay_31 : decode cX7_replay 31 = .ok (.getfield 145, 3) := by decide +kernel
theorem dX7_replay_34 : decode cX7_replay 34 = .ok (.isub, 1) := by decide +kernel
theorem dX7_replay_35 : decode cX7_replay 35 = .ok (.ireturn, 1) := by decide +kernel
theorem dX7_replay_36 : decode cX7_replay 36 = .ok (.iconst 0, 1) := by decide +kernel
theorem dX7_replay_37 : decode cX7_replay 37 = .ok (.istore_n 1, 1) := by decide +kernel
theorem dX7_replay_38 : decode cX7_replay 38 = .ok (.aload_n 0, 1) := by decide +kernel
theorem dX7_replay_39 : decode cX7_replay 39 = .ok (.iconst 0, 1) := by decide +kernel
theorem dX7_replay_40 : decode cX7_replay 40 = .ok (.putfield 145, 3) := by decide +kernel
theorem dX7_replay_43 : decode cX7_replay 43 = .ok (.aload_n 0, 1) := by decide +kernel
theorem dX7_replay_44 : decode cX7_replay 44 = .ok (.getfield 145, 3) := by decide +kernel
theorem dX7_replay_47 : decode cX7_replay 47 = .ok (.aload_n 0, 1) := by decide +kernel
theorem dX7_replay_48 : decode cX7_replay 48 = .ok (.getfield 142, 3) := by decide +kernel
theorem dX7_replay_51 : decode cX7_replay 51 = .ok (.if_icmp .ge 60, 3) := by decide +kernel
theorem dX7_replay_54 : decode cX7_replay 54 = .ok (.aload_n 0, 1) := by decide +kernel
theorem dX7_replay_55 : decode cX7_replay 55 = .ok (.invokevirtual 167, 3) := by decide +kernel
theorem dX7_replay_58 : decode cX7_replay 58 = .ok (.ifCond .eq 35, 3) := by decide +kernel
theorem dX7_replay_61 : decode cX7_replay 61 = .ok (.aload_n 0, 1) := by decide +kernel
theorem dX7_replay_62 : decode cX7_replay 62 = .ok (.getfield 158, 3) := by decide +kernel
theorem dX7_replay_65 : decode cX7_replay 65 = .ok (.aload_n 0, 1) := by decide +kernel
theorem dX7_replay_66 : decode cX7_replay 66 = .ok (.getfield 161, 3) := by decide +kernel
theorem dX7_replay_69 : decode cX7_replay 69 = .ok (.invokestatic 111, 3) := by decide +kernel
theorem dX7_replay_72 : decode cX7_replay 72 = .ok (.ifCond .eq 21, 3) := by decide +kernel
theorem dX7_replay_75 : decode cX7_replay 75 = .ok (.aload_n 0, 1) := by decide +kernel
theorem dX7_replay_76 : decode cX7_replay 76 = .ok (.getfield 164, 3) := by decide +kernel
theorem dX7_replay_79 : decode cX7_replay 79 = .ok (.iconst 0, 1) := by decide +kernel
theorem dX7_replay_80 : decode cX7_replay 80 = .ok (.sipush 20000, 3) := by decide +kernel
theorem dX7_replay_83 : decode cX7_replay 83 = .ok (.invokestatic 38, 3) := by decide +kernel
theorem dX7_replay_86 : decode cX7_replay 86 = .ok (.ifCond .eq 7, 3) := by decide +kernel
theorem dX7_replay_89 : decode cX7_replay 89 = .ok (.iconst 1, 1) := by decide +kernel
theorem dX7_replay_90 : decode cX7_replay 90 = .ok (.goto 4, 3) := by decide +kernel
theorem dX7_replay_93 : decode cX7_replay 93 = .ok (.iconst 0, 1) := by decide +kernel
theorem dX7_replay_94 : decode cX7_replay 94 = .ok (.istore_n 2, 1) := by decide +kernel
theorem dX7_replay_95 : decode cX7_replay 95 = .ok (.iload_n 2, 1) := by decide +kernel
theorem dX7_replay_96 : decode cX7_replay 96 = .ok (.ifCond .ne 9, 3) := by decide +kernel
theorem dX7_replay_99 : decode cX7_replay 99 = .ok (.sipush (-1000), 3) := by decide +kernel
theorem dX7_replay_102 : decode cX7_replay 102 = .ok (.iload_n 1, 1) := by decide +kernel
theorem dX7_replay_103 : decode cX7_replay 103 = .ok (.isub, 1) := by decide +kernel
theorem dX7_replay_104 : decode cX7_replay 104 = .ok (.ireturn, 1) := by decide +kernel
theorem dX7_replay_105 : decode cX7_replay 105 = .ok (.iinc 1 1, 3) := by decide +kernel
theorem dX7_replay_108 : decode cX7_replay 108 = .ok (.goto (-65), 3) := by decide +kernel
theorem dX7_replay_111 : decode cX7_replay 111 = .ok (.aload_n 0, 1) := by decide +kernel
theorem dX7_replay_112 : decode cX7_replay 112 = .ok (.invokevirtual 42, 3) := by decide +kernel
theorem dX7_replay_115 : decode cX7_replay 115 = .ok (.aload_n 0, 1) := by decide +kernel
theorem dX7_replay_116 : decode cX7_replay 116 = .ok (.iconst 0, 1) := by decide +kernel
theorem dX7_replay_117 : decode cX7_replay 117 = .ok (.putfield 145, 3) := by decide +kernel
theorem dX7_replay_120 : decode cX7_replay 120 = .ok (.aload_n 0, 1) := by decide +kernel
theorem dX7_replay_121 : decode cX7_replay 121 = .ok (.getfield 145, 3) := by decide +kernel
theorem dX7_replay_124 : decode cX7_replay 124 = .ok (.aload_n 0, 1) := by decide +kernel
theorem dX7_replay_125 : decode cX7_replay 125 = .ok (.getfield 142, 3) := by decide +kernel
theorem dX7_replay_128 : decode cX7_replay 128 = .ok (.if_icmp .ge 30, 3) := by decide +kernel
theorem dX7_replay_131 : decode cX7_replay 131 = .ok (.aload_n 0, 1) := by decide +kernel
theorem dX7_replay_132 : decode cX7_replay 132 = .ok (.invokevirtual 167, 3) := by decide +kernel
theorem dX7_replay_135 : decode cX7_replay 135 = .ok (.ifCond .eq 23, 3) := by decide +kernel
theorem dX7_replay_138 : decode cX7_replay 138 = .ok (.aload_n 0, 1) := by decide +kernel
theorem dX7_replay_139 : decode cX7_replay 139 = .ok (.aload_n 0, 1) := by decide +kernel
theorem dX7_replay_140 : decode cX7_replay 140 = .ok (.getfield 158, 3) := by decide +kernel
theorem dX7_replay_143 : decode cX7_replay 143 = .ok (.aload_n 0, 1) := by decide +kernel
theorem dX7_replay_144 : decode cX7_replay 144 = .ok (.getfield 161, 3) := by decide +kernel
theorem dX7_replay_147 : decode cX7_replay 147 = .ok (.aload_n 0, 1) := by decide +kernel
theorem dX7_replay_148 : decode cX7_replay 148 = .ok (.getfield 164, 3) := by decide +kernel
theorem dX7_replay_151 : decode cX7_replay 151 = .ok (.invokevirtual 108, 3) := by decide +kernel
theorem dX7_replay_154 : decode cX7_replay 154 = .ok (.istore_n 2, 1) := by decide +kernel
theorem dX7_replay_155 : decode cX7_replay 155 = .ok (.goto (-35), 3) := by decide +kernel
theorem dX7_replay_158 : decode cX7_replay 158 = .ok (.iload_n 1, 1) := by decide +kernel
theorem dX7_replay_159 : decode cX7_replay 159 = .ok (.ireturn, 1) := by decide +kernel
theorem dX7_mix_0 : decode cX7_mix 0 = .ok (.aload_n 0, 1) := by decide +kernel
theorem dX7_mix_1 : decode cX7_mix 1 = .ok (.ldc2_w 170, 3) := by decide +kernel
theorem dX7_mix_4 : decode cX7_mix 4 = .ok (.aload_n 0, 1) := by decide +kernel
theorem dX7_mix_5 : decode cX7_mix 5 = .ok (.getfield 172, 3) := by decide +kernel
theorem dX7_mix_8 : decode cX7_mix 8 = .ok (.lmul, 1) := by decide +kernel
theorem dX7_mix_9 : decode cX7_mix 9 = .ok (.iload_n 1, 1) := by decide +kernel
theorem dX7_mix_10 : decode cX7_mix 10 = .ok (.i2l, 1) := by decide +kernel
theorem dX7_mix_11 : decode cX7_mix 11 = .ok (.ladd, 1) := by decide +kernel
theorem dX7_mix_12 : decode cX7_mix 12 = .ok (.putfield 172, 3) := by decide +kernel
theorem dX7_mix_15 : decode cX7_mix 15 = .ok (.return_, 1) := by decide +kernel
theorem dX7_mixAll_0 : decode cX7_mixAll 0 = .ok (.iload_n 1, 1) := by decide +kernel
theorem dX7_mixAll_1 : decode cX7_mixAll 1 = .ok (.istore_n 3, 1) := by decide +kernel
theorem dX7_mixAll_2 : decode cX7_mixAll 2 = .ok (.iload_n 3, 1) := by decide +kernel
theorem dX7_mixAll_3 : decode cX7_mixAll 3 = .ok (.iload_n 1, 1) := by decide +kernel
theorem dX7_mixAll_4 : decode cX7_mixAll 4 = .ok (.iload_n 2, 1) := by decide +kernel
theorem dX7_mixAll_5 : decode cX7_mixAll 5 = .ok (.iadd, 1) := by decide +kernel
theorem dX7_mixAll_6 : decode cX7_mixAll 6 = .ok (.if_icmp .ge 19, 3) := by decide +kernel
theorem dX7_mixAll_9 : decode cX7_mixAll 9 = .ok (.aload_n 0, 1) := by decide +kernel
theorem dX7_mixAll_10 : decode cX7_mixAll 10 = .ok (.aload_n 0, 1) := by decide +kernel
theorem dX7_mixAll_11 : decode cX7_mixAll 11 = .ok (.getfield 7, 3) := by decide +kernel
theorem dX7_mixAll_14 : decode cX7_mixAll 14 = .ok (.iload_n 3, 1) := by decide +kernel
theorem dX7_mixAll_15 : decode cX7_mixAll 15 = .ok (.iaload, 1) := by decide +kernel
theorem dX7_mixAll_16 : decode cX7_mixAll 16 = .ok (.invokevirtual 176, 3) := by decide +kernel
theorem dX7_mixAll_19 : decode cX7_mixAll 19 = .ok (.iinc 3 1, 3) := by decide +kernel
theorem dX7_mixAll_22 : decode cX7_mixAll 22 = .ok (.goto (-20), 3) := by decide +kernel
theorem dX7_mixAll_25 : decode cX7_mixAll 25 = .ok (.return_, 1) := by decide +kernel
theorem dX7_digest_0 : decode cX7_digest 0 = .ok (.aload_n 0, 1) := by decide +kernel
theorem dX7_digest_1 : decode cX7_digest 1 = .ok (.iconst 0, 1) := by decide +kernel
theorem dX7_digest_2 : decode cX7_digest 2 = .ok (.putfield 27, 3) := by decide +kernel
theorem dX7_digest_5 : decode cX7_digest 5 = .ok (.aload_n 0, 1) := by decide +kernel
theorem dX7_digest_6 : decode cX7_digest 6 = .ok (.ldc2_w 179, 3) := by decide +kernel
theorem dX7_digest_9 : decode cX7_digest 9 = .ok (.putfield 172, 3) := by decide +kernel
theorem dX7_digest_12 : decode cX7_digest 12 = .ok (.aload_n 0, 1) := by decide +kernel
theorem dX7_digest_13 : decode cX7_digest 13 = .ok (.aload_n 0, 1) := by decide +kernel
theorem dX7_digest_14 : decode cX7_digest 14 = .ok (.getfield 142, 3) := by decide +kernel
theorem dX7_digest_17 : decode cX7_digest 17 = .ok (.invokevirtual 176, 3) := by decide +kernel
theorem dX7_digest_20 : decode cX7_digest 20 = .ok (.aload_n 0, 1) := by decide +kernel
theorem dX7_digest_21 : decode cX7_digest 21 = .ok (.iconst 0, 1) := by decide +kernel
theorem dX7_digest_22 : decode cX7_digest 22 = .ok (.bipush 9, 2) := by decide +kernel
theorem dX7_digest_24 : decode cX7_digest 24 = .ok (.invokevirtual 181, 3) := by decide +kernel
theorem dX7_digest_27 : decode cX7_digest 27 = .ok (.aload_n 0, 1) := by decide +kernel
theorem dX7_digest_28 : decode cX7_digest 28 = .ok (.aload_n 0, 1) := by decide +kernel
theorem dX7_digest_29 : decode cX7_digest 29 = .ok (.getfield 7, 3) := by decide +kernel
theorem dX7_digest_32 : decode cX7_digest 32 = .ok (.bipush 9, 2) := by decide +kernel
theorem dX7_digest_34 : decode cX7_digest 34 = .ok (.iaload, 1) := by decide +kernel
theorem dX7_digest_35 : decode cX7_digest 35 = .ok (.invokevirtual 176, 3) := by decide +kernel
theorem dX7_digest_38 : decode cX7_digest 38 = .ok (.aload_n 0, 1) := by decide +kernel
theorem dX7_digest_39 : decode cX7_digest 39 = .ok (.aload_n 0, 1) := by decide +kernel
theorem dX7_digest_40 : decode cX7_digest 40 = .ok (.getfield 7, 3) := by decide +kernel
theorem dX7_digest_43 : decode cX7_digest 43 = .ok (.bipush 9, 2) := by decide +kernel
theorem dX7_digest_45 : decode cX7_digest 45 = .ok (.iaload, 1) := by decide +kernel
theorem dX7_digest_46 : decode cX7_digest 46 = .ok (.aload_n 0, 1) := by decide +kernel
theorem dX7_digest_47 : decode cX7_digest 47 = .ok (.getfield 7, 3) := by decide +kernel
theorem dX7_digest_50 : decode cX7_digest 50 = .ok (.bipush 8, 2) := by decide +kernel
theorem dX7_digest_52 : decode cX7_digest 52 = .ok (.iaload, 1) := by decide +kernel
theorem dX7_digest_53 : decode cX7_digest 53 = .ok (.irem, 1) := by decide +kernel
theorem dX7_digest_54 : decode cX7_digest 54 = .ok (.invokevirtual 176, 3) := by decide +kernel
theorem dX7_digest_57 : decode cX7_digest 57 = .ok (.aload_n 0, 1) := by decide +kernel
theorem dX7_digest_58 : decode cX7_digest 58 = .ok (.aload_n 0, 1) := by decide +kernel
theorem dX7_digest_59 : decode cX7_digest 59 = .ok (.getfield 7, 3) := by decide +kernel
theorem dX7_digest_62 : decode cX7_digest 62 = .ok (.bipush 10, 2) := by decide +kernel
theorem dX7_digest_64 : decode cX7_digest 64 = .ok (.iaload, 1) := by decide +kernel
theorem dX7_digest_65 : decode cX7_digest 65 = .ok (.invokevirtual 176, 3) := by decide +kernel
theorem dX7_digest_68 : decode cX7_digest 68 = .ok (.aload_n 0, 1) := by decide +kernel
theorem dX7_digest_69 : decode cX7_digest 69 = .ok (.aload_n 0, 1) := by decide +kernel
theorem dX7_digest_70 : decode cX7_digest 70 = .ok (.getfield 7, 3) := by decide +kernel
theorem dX7_digest_73 : decode cX7_digest 73 = .ok (.bipush 11, 2) := by decide +kernel
theorem dX7_digest_75 : decode cX7_digest 75 = .ok (.iaload, 1) := by decide +kernel
theorem dX7_digest_76 : decode cX7_digest 76 = .ok (.invokevirtual 176, 3) := by decide +kernel
theorem dX7_digest_79 : decode cX7_digest 79 = .ok (.aload_n 0, 1) := by decide +kernel
theorem dX7_digest_80 : decode cX7_digest 80 = .ok (.bipush 12, 2) := by decide +kernel
theorem dX7_digest_82 : decode cX7_digest 82 = .ok (.iconst 5, 1) := by decide +kernel
theorem dX7_digest_83 : decode cX7_digest 83 = .ok (.invokevirtual 181, 3) := by decide +kernel
theorem dX7_digest_86 : decode cX7_digest 86 = .ok (.iconst 0, 1) := by decide +kernel
theorem dX7_digest_87 : decode cX7_digest 87 = .ok (.istore_n 1, 1) := by decide +kernel
theorem dX7_digest_88 : decode cX7_digest 88 = .ok (.iload_n 1, 1) := by decide +kernel
theorem dX7_digest_89 : decode cX7_digest 89 = .ok (.aload_n 0, 1) := by decide +kernel
theorem dX7_digest_90 : decode cX7_digest 90 = .ok (.getfield 7, 3) := by decide +kernel
theorem dX7_digest_93 : decode cX7_digest 93 = .ok (.bipush 8, 2) := by decide +kernel
theorem dX7_digest_95 : decode cX7_digest 95 = .ok (.iaload, 1) := by decide +kernel
theorem dX7_digest_96 : decode cX7_digest 96 = .ok (.if_icmp .ge 32, 3) := by decide +kernel
theorem dX7_digest_99 : decode cX7_digest 99 = .ok (.iconst 0, 1) := by decide +kernel
theorem dX7_digest_100 : decode cX7_digest 100 = .ok (.istore_n 2, 1) := by decide +kernel
theorem dX7_digest_101 : decode cX7_digest 101 = .ok (.iload_n 2, 1) := by decide +kernel
theorem dX7_digest_102 : decode cX7_digest 102 = .ok (.iconst 5, 1) := by decide +kernel
theorem dX7_digest_103 : decode cX7_digest 103 = .ok (.if_icmp .ge 19, 3) := by decide +kernel
theorem dX7_digest_106 : decode cX7_digest 106 = .ok (.aload_n 0, 1) := by decide +kernel
theorem dX7_digest_107 : decode cX7_digest 107 = .ok (.aload_n 0, 1) := by decide +kernel
theorem dX7_digest_108 : decode cX7_digest 108 = .ok (.iload_n 1, 1) := by decide +kernel
theorem dX7_digest_109 : decode cX7_digest 109 = .ok (.iload_n 2, 1) := by decide +kernel
theorem dX7_digest_110 : decode cX7_digest 110 = .ok (.invokevirtual 123, 3) := by decide +kernel
theorem dX7_digest_113 : decode cX7_digest 113 = .ok (.invokevirtual 176, 3) := by decide +kernel
theorem dX7_digest_116 : decode cX7_digest 116 = .ok (.iinc 2 1, 3) := by decide +kernel
theorem dX7_digest_119 : decode cX7_digest 119 = .ok (.goto (-18), 3) := by decide +kernel
theorem dX7_digest_122 : decode cX7_digest 122 = .ok (.iinc 1 1, 3) := by decide +kernel
theorem dX7_digest_125 : decode cX7_digest 125 = .ok (.goto (-37), 3) := by decide +kernel
theorem dX7_digest_128 : decode cX7_digest 128 = .ok (.aload_n 0, 1) := by decide +kernel
theorem dX7_digest_129 : decode cX7_digest 129 = .ok (.bipush 49, 2) := by decide +kernel
theorem dX7_digest_131 : decode cX7_digest 131 = .ok (.bipush 24, 2) := by decide +kernel
theorem dX7_digest_133 : decode cX7_digest 133 = .ok (.invokevirtual 181, 3) := by decide +kernel
theorem dX7_digest_136 : decode cX7_digest 136 = .ok (.aload_n 0, 1) := by decide +kernel
theorem dX7_digest_137 : decode cX7_digest 137 = .ok (.bipush 73, 2) := by decide +kernel
theorem dX7_digest_139 : decode cX7_digest 139 = .ok (.iconst 1, 1) := by decide +kernel
theorem dX7_digest_140 : decode cX7_digest 140 = .ok (.iconst 3, 1) := by decide +kernel
theorem dX7_digest_141 : decode cX7_digest 141 = .ok (.aload_n 0, 1) := by decide +kernel
theorem dX7_digest_142 : decode cX7_digest 142 = .ok (.getfield 7, 3) := by decide +kernel
theorem dX7_digest_145 : decode cX7_digest 145 = .ok (.bipush 73, 2) := by decide +kernel
theorem dX7_digest_147 : decode cX7_digest 147 = .ok (.iaload, 1) := by decide +kernel
theorem dX7_digest_148 : decode cX7_digest 148 = .ok (.imul, 1) := by decide +kernel
theorem dX7_digest_149 : decode cX7_digest 149 = .ok (.iadd, 1) := by decide +kernel
theorem dX7_digest_150 : decode cX7_digest 150 = .ok (.invokevirtual 181, 3) := by decide +kernel
theorem dX7_digest_153 : decode cX7_digest 153 = .ok (.aload_n 0, 1) := by decide +kernel
theorem dX7_digest_154 : decode cX7_digest 154 = .ok (.aload_n 0, 1) := by decide +kernel
theorem dX7_digest_155 : decode cX7_digest 155 = .ok (.getfield 31, 3) := by decide +kernel
theorem dX7_digest_158 : decode cX7_digest 158 = .ok (.invokevirtual 176, 3) := by decide +kernel
theorem dX7_digest_161 : decode cX7_digest 161 = .ok (.aload_n 0, 1) := by decide +kernel
theorem dX7_digest_162 : decode cX7_digest 162 = .ok (.getfield 172, 3) := by decide +kernel
theorem dX7_digest_165 : decode cX7_digest 165 = .ok (.lreturn, 1) := by decide +kernel
theorem dJxf58ca_isNaN_12338_0 : decode cJxf58ca_isNaN_12338 0 = .ok (.fload_n 0, 1) := by decide +kernel
theorem dJxf58ca_isNaN_12338_1 : decode cJxf58ca_isNaN_12338 1 = .ok (.fload_n 0, 1) := by decide +kernel
theorem dJxf58ca_isNaN_12338_2 : decode cJxf58ca_isNaN_12338 2 = .ok (.fcmp .l, 1) := by decide +kernel
theorem dJxf58ca_isNaN_12338_3 : decode cJxf58ca_isNaN_12338 3 = .ok (.ifCond .eq 7, 3) := by decide +kernel
theorem dJxf58ca_isNaN_12338_6 : decode cJxf58ca_isNaN_12338 6 = .ok (.iconst 1, 1) := by decide +kernel
theorem dJxf58ca_isNaN_12338_7 : decode cJxf58ca_isNaN_12338 7 = .ok (.goto 4, 3) := by decide +kernel
theorem dJxf58ca_isNaN_12338_10 : decode cJxf58ca_isNaN_12338 10 = .ok (.iconst 0, 1) := by decide +kernel
theorem dJxf58ca_isNaN_12338_11 : decode cJxf58ca_isNaN_12338 11 = .ok (.ireturn, 1) := by decide +kernel
theorem dJxf58ca_floatToIntBits_5c35a_0 : decode cJxf58ca_floatToIntBits_5c35a 0 = .ok (.fload_n 0, 1) := by decide +kernel
theorem dJxf58ca_floatToIntBits_5c35a_1 : decode cJxf58ca_floatToIntBits_5c35a 1 = .ok (.invokestatic 59, 3) := by decide +kernel
theorem dJxf58ca_floatToIntBits_5c35a_4 : decode cJxf58ca_floatToIntBits_5c35a 4 = .ok (.ifCond .ne 8, 3) := by decide +kernel
theorem dJxf58ca_floatToIntBits_5c35a_7 : decode cJxf58ca_floatToIntBits_5c35a 7 = .ok (.fload_n 0, 1) := by decide +kernel
theorem dJxf58ca_floatToIntBits_5c35a_8 : decode cJxf58ca_floatToIntBits_5c35a 8 = .ok (.invokestatic 74, 3) := by decide +kernel
theorem dJxf58ca_floatToIntBits_5c35a_11 : decode cJxf58ca_floatToIntBits_5c35a 11 = .ok (.ireturn, 1) := by decide +kernel
theorem dJxf58ca_floatToIntBits_5c35a_12 : decode cJxf58ca_floatToIntBits_5c35a 12 = .ok (.ldc 77, 2) := by decide +kernel
theorem dJxf58ca_floatToIntBits_5c35a_14 : decode cJxf58ca_floatToIntBits_5c35a 14 = .ok (.ireturn, 1) := by decide +kernel
theorem dJ9_floorDiv_7cf53_0 : decode cJ9_floorDiv_7cf53 0 = .ok (.iload_n 0, 1) := by decide +kernel
theorem dJ9_floorDiv_7cf53_1 : decode cJ9_floorDiv_7cf53 1 = .ok (.iload_n 1, 1) := by decide +kernel
theorem dJ9_floorDiv_7cf53_2 : decode cJ9_floorDiv_7cf53 2 = .ok (.idiv, 1) := by decide +kernel
theorem dJ9_floorDiv_7cf53_3 : decode cJ9_floorDiv_7cf53 3 = .ok (.istore_n 2, 1) := by decide +kernel
theorem dJ9_floorDiv_7cf53_4 : decode cJ9_floorDiv_7cf53 4 = .ok (.iload_n 0, 1) := by decide +kernel
theorem dJ9_floorDiv_7cf53_5 : decode cJ9_floorDiv_7cf53 5 = .ok (.iload_n 1, 1) := by decide +kernel
theorem dJ9_floorDiv_7cf53_6 : decode cJ9_floorDiv_7cf53 6 = .ok (.ixor, 1) := by decide +kernel
theorem dJ9_floorDiv_7cf53_7 : decode cJ9_floorDiv_7cf53 7 = .ok (.ifCond .ge 14, 3) := by decide +kernel
theorem dJ9_floorDiv_7cf53_10 : decode cJ9_floorDiv_7cf53 10 = .ok (.iload_n 2, 1) := by decide +kernel
theorem dJ9_floorDiv_7cf53_11 : decode cJ9_floorDiv_7cf53 11 = .ok (.iload_n 1, 1) := by decide +kernel
theorem dJ9_floorDiv_7cf53_12 : decode cJ9_floorDiv_7cf53 12 = .ok (.imul, 1) := by decide +kernel
theorem dJ9_floorDiv_7cf53_13 : decode cJ9_floorDiv_7cf53 13 = .ok (.iload_n 0, 1) := by decide +kernel
theorem dJ9_floorDiv_7cf53_14 : decode cJ9_floorDiv_7cf53 14 = .ok (.if_icmp .eq 7, 3) := by decide +kernel
theorem dJ9_floorDiv_7cf53_17 : decode cJ9_floorDiv_7cf53 17 = .ok (.iload_n 2, 1) := by decide +kernel
theorem dJ9_floorDiv_7cf53_18 : decode cJ9_floorDiv_7cf53 18 = .ok (.iconst 1, 1) := by decide +kernel
theorem dJ9_floorDiv_7cf53_19 : decode cJ9_floorDiv_7cf53 19 = .ok (.isub, 1) := by decide +kernel
theorem dJ9_floorDiv_7cf53_20 : decode cJ9_floorDiv_7cf53 20 = .ok (.ireturn, 1) := by decide +kernel
theorem dJ9_floorDiv_7cf53_21 : decode cJ9_floorDiv_7cf53 21 = .ok (.iload_n 2, 1) := by decide +kernel
theorem dJ9_floorDiv_7cf53_22 : decode cJ9_floorDiv_7cf53 22 = .ok (.ireturn, 1) := by decide +kernel
theorem dJ9_max_7cf53_0 : decode cJ9_max_7cf53 0 = .ok (.iload_n 0, 1) := by decide +kernel
theorem dJ9_max_7cf53_1 : decode cJ9_max_7cf53 1 = .ok (.iload_n 1, 1) := by decide +kernel
theorem dJ9_max_7cf53_2 : decode cJ9_max_7cf53 2 = .ok (.if_icmp .lt 7, 3) := by decide +kernel
theorem dJ9_max_7cf53_5 : decode cJ9_max_7cf53 5 = .ok (.iload_n 0, 1) := by decide +kernel
theorem dJ9_max_7cf53_6 : decode cJ9_max_7cf53 6 = .ok (.goto 4, 3) := by decide +kernel
theorem dJ9_max_7cf53_9 : decode cJ9_max_7cf53 9 = .ok (.iload_n 1, 1) := by decide +kernel
theorem dJ9_max_7cf53_10 : decode cJ9_max_7cf53 10 = .ok (.ireturn, 1) := by decide +kernel
theorem dJ9_min_7cf53_0 : decode cJ9_min_7cf53 0 = .ok (.iload_n 0, 1) := by decide +kernel
theorem dJ9_min_7cf53_1 : decode cJ9_min_7cf53 1 = .ok (.iload_n 1, 1) := by decide +kernel
theorem dJ9_min_7cf53_2 : decode cJ9_min_7cf53 2 = .ok (.if_icmp .gt 7, 3) := by decide +kernel
theorem dJ9_min_7cf53_5 : decode cJ9_min_7cf53 5 = .ok (.iload_n 0, 1) := by decide +kernel
theorem dJ9_min_7cf53_6 : decode cJ9_min_7cf53 6 = .ok (.goto 4, 3) := by decide +kernel
theorem dJ9_min_7cf53_9 : decode cJ9_min_7cf53 9 = .ok (.iload_n 1, 1) := by decide +kernel
theorem dJ9_min_7cf53_10 : decode cJ9_min_7cf53 10 = .ok (.ireturn, 1) := by decide +kernel
theorem dL_begin_0 : decode cL_begin 0 = .ok (.aload_n 2, 1) := by decide +kernel
theorem dL_begin_1 : decode cL_begin 1 = .ok (.iconst 0, 1) := by decide +kernel
theorem dL_begin_2 : decode cL_begin 2 = .ok (.aload_n 0, 1) := by decide +kernel
theorem dL_begin_3 : decode cL_begin 3 = .ok (.iload_n 1, 1) := by decide +kernel
theorem dL_begin_4 : decode cL_begin 4 = .ok (.invokevirtual 7, 3) := by decide +kernel
theorem dL_begin_7 : decode cL_begin 7 = .ok (.i2l, 1) := by decide +kernel
theorem dL_begin_8 : decode cL_begin 8 = .ok (.lastore, 1) := by decide +kernel
theorem dL_begin_9 : decode cL_begin 9 = .ok (.goto 6, 3) := by decide +kernel
theorem dL_begin_12 : decode cL_begin 12 = .ok (.astore_n 3, 1) := by decide +kernel
theorem dL_begin_13 : decode cL_begin 13 = .ok (.iconst 1, 1) := by decide +kernel
theorem dL_begin_14 : decode cL_begin 14 = .ok (.ireturn, 1) := by decide +kernel
theorem dL_begin_15 : decode cL_begin 15 = .ok (.iconst 0, 1) := by decide +kernel
theorem dL_begin_16 : decode cL_begin 16 = .ok (.ireturn, 1) := by decide +kernel
theorem dL_set_0 : decode cL_set 0 = .ok (.aload_n 3, 1) := by decide +kernel
theorem dL_set_1 : decode cL_set 1 = .ok (.iconst 0, 1) := by decide +kernel
theorem dL_set_2 : decode cL_set 2 = .ok (.aload_n 0, 1) := by decide +kernel
theorem dL_set_3 : decode cL_set 3 = .ok (.iload_n 1, 1) := by decide +kernel
theorem dL_set_4 : decode cL_set 4 = .ok (.iload_n 2, 1) := by decide +kernel
theorem dL_set_5 : decode cL_set 5 = .ok (.invokevirtual 15, 3) := by decide +kernel
theorem dL_set_8 : decode cL_set 8 = .ok (.i2l, 1) := by decide +kernel
theorem dL_set_9 : decode cL_set 9 = .ok (.lastore, 1) := by decide +kernel
theorem dL_set_10 : decode cL_set 10 = .ok (.goto 7, 3) := by decide +kernel
theorem dL_set_13 : decode cL_set 13 = .ok (.astore 4, 2) := by decide +kernel
theorem dL_set_15 : decode cL_set 15 = .ok (.iconst 1, 1) := by decide +kernel
theorem dL_set_16 : decode cL_set 16 = .ok (.ireturn, 1) := by decide +kernel
theorem dL_set_17 : decode cL_set 17 = .ok (.iconst 0, 1) := by decide +kernel
theorem dL_set_18 : decode cL_set 18 = .ok (.ireturn, 1) := by decide +kernel
theorem dL_value_0 : decode cL_value 0 = .ok (.aload_n 2, 1) := by decide +kernel
theorem dL_value_1 : decode cL_value 1 = .ok (.iconst 0, 1) := by decide +kernel
theorem dL_value_2 : decode cL_value 2 = .ok (.aload_n 0, 1) := by decide +kernel
theorem dL_value_3 : decode cL_value 3 = .ok (.iload_n 1, 1) := by decide +kernel
theorem dL_value_4 : decode cL_value 4 = .ok (.invokevirtual 19, 3) := by decide +kernel
theorem dL_value_7 : decode cL_value 7 = .ok (.i2l, 1) := by decide +kernel
theorem dL_value_8 : decode cL_value 8 = .ok (.lastore, 1) := by decide +kernel
theorem dL_value_9 : decode cL_value 9 = .ok (.goto 6, 3) := by decide +kernel
theorem dL_value_12 : decode cL_value 12 = .ok (.astore_n 3, 1) := by decide +kernel
theorem dL_value_13 : decode cL_value 13 = .ok (.iconst 1, 1) := by decide +kernel
theorem dL_value_14 : decode cL_value 14 = .ok (.ireturn, 1) := by decide +kernel
theorem dL_value_15 : decode cL_value 15 = .ok (.iconst 0, 1) := by decide +kernel
theorem dL_value_16 : decode cL_value 16 = .ok (.ireturn, 1) := by decide +kernel
theorem dL_teach_0 : decode cL_teach 0 = .ok (.aload 4, 2) := by decide +kernel
theorem dL_teach_2 : decode cL_teach 2 = .ok (.iconst 0, 1) := by decide +kernel
theorem dL_teach_3 : decode cL_teach 3 = .ok (.aload_n 0, 1) := by decide +kernel
theorem dL_teach_4 : decode cL_teach 4 = .ok (.iload_n 1, 1) := by decide +kernel
theorem dL_teach_5 : decode cL_teach 5 = .ok (.iload_n 2, 1) := by decide +kernel
theorem dL_teach_6 : decode cL_teach 6 = .ok (.iload_n 3, 1) := by decide +kernel
theorem dL_teach_7 : decode cL_teach 7 = .ok (.invokevirtual 22, 3) := by decide +kernel
theorem dL_teach_10 : decode cL_teach 10 = .ok (.i2l, 1) := by decide +kernel
theorem dL_teach_11 : decode cL_teach 11 = .ok (.lastore, 1) := by decide +kernel
theorem dL_teach_12 : decode cL_teach 12 = .ok (.goto 11, 3) := by decide +kernel
theorem dL_teach_15 : decode cL_teach 15 = .ok (.astore 5, 2) := by decide +kernel
theorem dL_teach_17 : decode cL_teach 17 = .ok (.iconst 1, 1) := by decide +kernel
theorem dL_teach_18 : decode cL_teach 18 = .ok (.ireturn, 1) := by decide +kernel
theorem dL_teach_19 : decode cL_teach 19 = .ok (.astore 5, 2) := by decide +kernel
theorem dL_teach_21 : decode cL_teach 21 = .ok (.iconst 2, 1) := by decide +kernel
theorem dL_teach_22 : decode cL_teach 22 = .ok (.ireturn, 1) := by decide +kernel
theorem dL_teach_23 : decode cL_teach 23 = .ok (.iconst 0, 1) := by decide +kernel
theorem dL_teach_24 : decode cL_teach 24 = .ok (.ireturn, 1) := by decide +kernel
theorem dL_seed_0 : decode cL_seed 0 = .ok (.aload_n 2, 1) := by decide +kernel
theorem dL_seed_1 : decode cL_seed 1 = .ok (.iconst 0, 1) := by decide +kernel
theorem dL_seed_2 : decode cL_seed 2 = .ok (.aload_n 0, 1) := by decide +kernel
theorem dL_seed_3 : decode cL_seed 3 = .ok (.iload_n 1, 1) := by decide +kernel
theorem dL_seed_4 : decode cL_seed 4 = .ok (.invokevirtual 28, 3) := by decide +kernel
theorem dL_seed_7 : decode cL_seed 7 = .ok (.i2l, 1) := by decide +kernel
theorem dL_seed_8 : decode cL_seed 8 = .ok (.lastore, 1) := by decide +kernel
theorem dL_seed_9 : decode cL_seed 9 = .ok (.goto 6, 3) := by decide +kernel
theorem dL_seed_12 : decode cL_seed 12 = .ok (.astore_n 3, 1) := by decide +kernel
theorem dL_seed_13 : decode cL_seed 13 = .ok (.iconst 1, 1) := by decide +kernel
theorem dL_seed_14 : decode cL_seed 14 = .ok (.ireturn, 1) := by decide +kernel
theorem dL_seed_15 : decode cL_seed 15 = .ok (.iconst 0, 1) := by decide +kernel
theorem dL_seed_16 : decode cL_seed 16 = .ok (.ireturn, 1) := by decide +kernel
theorem dL_fire_0 : decode cL_fire 0 = .ok (.aload 4, 2) := by decide +kernel
theorem dL_fire_2 : decode cL_fire 2 = .ok (.iconst 0, 1) := by decide +kernel
theorem dL_fire_3 : decode cL_fire 3 = .ok (.aload_n 0, 1) := by decide +kernel
theorem dL_fire_4 : decode cL_fire 4 = .ok (.iload_n 1, 1) := by decide +kernel
theorem dL_fire_5 : decode cL_fire 5 = .ok (.iload_n 2, 1) := by decide +kernel
theorem dL_fire_6 : decode cL_fire 6 = .ok (.iload_n 3, 1) := by decide +kernel
theorem dL_fire_7 : decode cL_fire 7 = .ok (.invokevirtual 31, 3) := by decide +kernel
theorem dL_fire_10 : decode cL_fire 10 = .ok (.i2l, 1) := by decide +kernel
theorem dL_fire_11 : decode cL_fire 11 = .ok (.lastore, 1) := by decide +kernel
theorem dL_fire_12 : decode cL_fire 12 = .ok (.goto 7, 3) := by decide +kernel
theorem dL_fire_15 : decode cL_fire 15 = .ok (.astore 5, 2) := by decide +kernel
theorem dL_fire_17 : decode cL_fire 17 = .ok (.iconst 1, 1) := by decide +kernel
theorem dL_fire_18 : decode cL_fire 18 = .ok (.ireturn, 1) := by decide +kernel
theorem dL_fire_19 : decode cL_fire 19 = .ok (.iconst 0, 1) := by decide +kernel
theorem dL_fire_20 : decode cL_fire 20 = .ok (.ireturn, 1) := by decide +kernel
theorem dL_drive_0 : decode cL_drive 0 = .ok (.aload 5, 2) := by decide +kernel
theorem dL_drive_2 : decode cL_drive 2 = .ok (.iconst 0, 1) := by decide +kernel
theorem dL_drive_3 : decode cL_drive 3 = .ok (.aload_n 0, 1) := by decide +kernel
theorem dL_drive_4 : decode cL_drive 4 = .ok (.iload_n 1, 1) := by decide +kernel
theorem dL_drive_5 : decode cL_drive 5 = .ok (.iload_n 2, 1) := by decide +kernel
theorem dL_drive_6 : decode cL_drive 6 = .ok (.iload_n 3, 1) := by decide +kernel
theorem dL_drive_7 : decode cL_drive 7 = .ok (.iload 4, 2) := by decide +kernel
theorem dL_drive_9 : decode cL_drive 9 = .ok (.invokevirtual 34, 3) := by decide +kernel
theorem dL_drive_12 : decode cL_drive 12 = .ok (.i2l, 1) := by decide +kernel
theorem dL_drive_13 : decode cL_drive 13 = .ok (.lastore, 1) := by decide +kernel
theorem dL_drive_14 : decode cL_drive 14 = .ok (.goto 7, 3) := by decide +kernel
theorem dL_drive_17 : decode cL_drive 17 = .ok (.astore 6, 2) := by decide +kernel
theorem dL_drive_19 : decode cL_drive 19 = .ok (.iconst 1, 1) := by decide +kernel
theorem dL_drive_20 : decode cL_drive 20 = .ok (.ireturn, 1) := by decide +kernel
theorem dL_drive_21 : decode cL_drive 21 = .ok (.iconst 0, 1) := by decide +kernel
theorem dL_drive_22 : decode cL_drive 22 = .ok (.ireturn, 1) := by decide +kernel
theorem dL_cylinder_0 : decode cL_cylinder 0 = .ok (.aload_n 3, 1) := by decide +kernel
theorem dL_cylinder_1 : decode cL_cylinder 1 = .ok (.iconst 0, 1) := by decide +kernel
theorem dL_cylinder_2 : decode cL_cylinder 2 = .ok (.aload_n 0, 1) := by decide +kernel
theorem dL_cylinder_3 : decode cL_cylinder 3 = .ok (.iload_n 1, 1) := by decide +kernel
theorem dL_cylinder_4 : decode cL_cylinder 4 = .ok (.iload_n 2, 1) := by decide +kernel
theorem dL_cylinder_5 : decode cL_cylinder 5 = .ok (.invokevirtual 38, 3) := by decide +kernel
theorem dL_cylinder_8 : decode cL_cylinder 8 = .ok (.i2l, 1) := by decide +kernel
theorem dL_cylinder_9 : decode cL_cylinder 9 = .ok (.lastore, 1) := by decide +kernel
theorem dL_cylinder_10 : decode cL_cylinder 10 = .ok (.goto 11, 3) := by decide +kernel
theorem dL_cylinder_13 : decode cL_cylinder 13 = .ok (.astore 4, 2) := by decide +kernel
theorem dL_cylinder_15 : decode cL_cylinder 15 = .ok (.iconst 1, 1) := by decide +kernel
theorem dL_cylinder_16 : decode cL_cylinder 16 = .ok (.ireturn, 1) := by decide +kernel
theorem dL_cylinder_17 : decode cL_cylinder 17 = .ok (.astore 4, 2) := by decide +kernel
theorem dL_cylinder_19 : decode cL_cylinder 19 = .ok (.iconst 2, 1) := by decide +kernel
theorem dL_cylinder_20 : decode cL_cylinder 20 = .ok (.ireturn, 1) := by decide +kernel
theorem dL_cylinder_21 : decode cL_cylinder 21 = .ok (.iconst 0, 1) := by decide +kernel
theorem dL_cylinder_22 : decode cL_cylinder 22 = .ok (.ireturn, 1) := by decide +kernel
theorem dL_learned_0 : decode cL_learned 0 = .ok (.aload_n 3, 1) := by decide +kernel
theorem dL_learned_1 : decode cL_learned 1 = .ok (.iconst 0, 1) := by decide +kernel
theorem dL_learned_2 : decode cL_learned 2 = .ok (.aload_n 0, 1) := by decide +kernel
theorem dL_learned_3 : decode cL_learned 3 = .ok (.iload_n 1, 1) := by decide +kernel
theorem dL_learned_4 : decode cL_learned 4 = .ok (.iload_n 2, 1) := by decide +kernel
theorem dL_learned_5 : decode cL_learned 5 = .ok (.invokevirtual 41, 3) := by decide +kernel
theorem dL_learned_8 : decode cL_learned 8 = .ok (.i2l, 1) := by decide +kernel
theorem dL_learned_9 : decode cL_learned 9 = .ok (.lastore, 1) := by decide +kernel
theorem dL_learned_10 : decode cL_learned 10 = .ok (.goto 7, 3) := by decide +kernel
theorem dL_learned_13 : decode cL_learned 13 = .ok (.astore 4, 2) := by decide +kernel
theorem dL_learned_15 : decode cL_learned 15 = .ok (.iconst 1, 1) := by decide +kernel
theorem dL_learned_16 : decode cL_learned 16 = .ok (.ireturn, 1) := by decide +kernel
theorem dL_learned_17 : decode cL_learned 17 = .ok (.iconst 0, 1) := by decide +kernel
theorem dL_learned_18 : decode cL_learned 18 = .ok (.ireturn, 1) := by decide +kernel
theorem dL_angle_0 : decode cL_angle 0 = .ok (.aload 5, 2) := by decide +kernel
theorem dL_angle_2 : decode cL_angle 2 = .ok (.iconst 0, 1) := by decide +kernel
theorem dL_angle_3 : decode cL_angle 3 = .ok (.aload_n 0, 1) := by decide +kernel
theorem dL_angle_4 : decode cL_angle 4 = .ok (.iload_n 1, 1) := by decide +kernel
theorem dL_angle_5 : decode cL_angle 5 = .ok (.iload_n 2, 1) := by decide +kernel
theorem dL_angle_6 : decode cL_angle 6 = .ok (.iload_n 3, 1) := by decide +kernel
theorem dL_angle_7 : decode cL_angle 7 = .ok (.iload 4, 2) := by decide +kernel
theorem dL_angle_9 : decode cL_angle 9 = .ok (.invokevirtual 44, 3) := by decide +kernel
theorem dL_angle_12 : decode cL_angle 12 = .ok (.i2l, 1) := by decide +kernel
theorem dL_angle_13 : decode cL_angle 13 = .ok (.lastore, 1) := by decide +kernel
theorem dL_angle_14 : decode cL_angle 14 = .ok (.goto 11, 3) := by decide +kernel
theorem dL_angle_17 : decode cL_angle 17 = .ok (.astore 6, 2) := by decide +kernel
theorem dL_angle_19 : decode cL_angle 19 = .ok (.iconst 1, 1) := by decide +kernel
theorem dL_angle_20 : decode cL_angle 20 = .ok (.ireturn, 1) := by decide +kernel
theorem dL_angle_21 : decode cL_angle 21 = .ok (.astore 6, 2) := by decide +kernel
theorem dL_angle_23 : decode cL_angle 23 = .ok (.iconst 2, 1) := by decide +kernel
theorem dL_angle_24 : decode cL_angle 24 = .ok (.ireturn, 1) := by decide +kernel
theorem dL_angle_25 : decode cL_angle 25 = .ok (.iconst 0, 1) := by decide +kernel
theorem dL_angle_26 : decode cL_angle 26 = .ok (.ireturn, 1) := by decide +kernel
theorem dL_status_0 : decode cL_status 0 = .ok (.aload_n 2, 1) := by decide +kernel
theorem dL_status_1 : decode cL_status 1 = .ok (.iconst 0, 1) := by decide +kernel
theorem dL_status_2 : decode cL_status 2 = .ok (.aload_n 0, 1) := by decide +kernel
theorem dL_status_3 : decode cL_status 3 = .ok (.iload_n 1, 1) := by decide +kernel
theorem dL_status_4 : decode cL_status 4 = .ok (.invokevirtual 48, 3) := by decide +kernel
theorem dL_status_7 : decode cL_status 7 = .ok (.i2l, 1) := by decide +kernel
theorem dL_status_8 : decode cL_status 8 = .ok (.lastore, 1) := by decide +kernel
theorem dL_status_9 : decode cL_status 9 = .ok (.goto 6, 3) := by decide +kernel
theorem dL_status_12 : decode cL_status 12 = .ok (.astore_n 3, 1) := by decide +kernel
theorem dL_status_13 : decode cL_status 13 = .ok (.iconst 1, 1) := by decide +kernel
theorem dL_status_14 : decode cL_status 14 = .ok (.ireturn, 1) := by decide +kernel
theorem dL_status_15 : decode cL_status 15 = .ok (.iconst 0, 1) := by decide +kernel
theorem dL_status_16 : decode cL_status 16 = .ok (.ireturn, 1) := by decide +kernel
theorem dL_octane_0 : decode cL_octane 0 = .ok (.aload_n 2, 1) := by decide +kernel
theorem dL_octane_1 : decode cL_octane 1 = .ok (.iconst 0, 1) := by decide +kernel
theorem dL_octane_2 : decode cL_octane 2 = .ok (.aload_n 0, 1) := by decide +kernel
theorem dL_octane_3 : decode cL_octane 3 = .ok (.iload_n 1, 1) := by decide +kernel
theorem dL_octane_4 : decode cL_octane 4 = .ok (.invokevirtual 51, 3) := by decide +kernel
theorem dL_octane_7 : decode cL_octane 7 = .ok (.dastore, 1) := by decide +kernel
theorem dL_octane_8 : decode cL_octane 8 = .ok (.goto 6, 3) := by decide +kernel
theorem dL_octane_11 : decode cL_octane 11 = .ok (.astore_n 3, 1) := by decide +kernel
theorem dL_octane_12 : decode cL_octane 12 = .ok (.iconst 1, 1) := by decide +kernel
theorem dL_octane_13 : decode cL_octane 13 = .ok (.ireturn, 1) := by decide +kernel
theorem dL_octane_14 : decode cL_octane 14 = .ok (.iconst 0, 1) := by decide +kernel
theorem dL_octane_15 : decode cL_octane 15 = .ok (.ireturn, 1) := by decide +kernel
theorem dL_extreme_0 : decode cL_extreme 0 = .ok (.aload 4, 2) := by decide +kernel
theorem dL_extreme_2 : decode cL_extreme 2 = .ok (.iconst 0, 1) := by decide +kernel
theorem dL_extreme_3 : decode cL_extreme 3 = .ok (.aload_n 0, 1) := by decide +kernel
theorem dL_extreme_4 : decode cL_extreme 4 = .ok (.iload_n 1, 1) := by decide +kernel
theorem dL_extreme_5 : decode cL_extreme 5 = .ok (.iload_n 2, 1) := by decide +kernel
theorem dL_extreme_6 : decode cL_extreme 6 = .ok (.iload_n 3, 1) := by decide +kernel
theorem dL_extreme_7 : decode cL_extreme 7 = .ok (.invokevirtual 55, 3) := by decide +kernel
theorem dL_extreme_10 : decode cL_extreme 10 = .ok (.i2l, 1) := by decide +kernel
theorem dL_extreme_11 : decode cL_extreme 11 = .ok (.lastore, 1) := by decide +kernel
theorem dL_extreme_12 : decode cL_extreme 12 = .ok (.goto 7, 3) := by decide +kernel
theorem dL_extreme_15 : decode cL_extreme 15 = .ok (.astore 5, 2) := by decide +kernel
theorem dL_extreme_17 : decode cL_extreme 17 = .ok (.iconst 1, 1) := by decide +kernel
theorem dL_extreme_18 : decode cL_extreme 18 = .ok (.ireturn, 1) := by decide +kernel
theorem dL_extreme_19 : decode cL_extreme 19 = .ok (.iconst 0, 1) := by decide +kernel
theorem dL_extreme_20 : decode cL_extreme 20 = .ok (.ireturn, 1) := by decide +kernel
theorem dL_event_0 : decode cL_event 0 = .ok (.aload_n 3, 1) := by decide +kernel
theorem dL_event_1 : decode cL_event 1 = .ok (.iconst 0, 1) := by decide +kernel
theorem dL_event_2 : decode cL_event 2 = .ok (.aload_n 0, 1) := by decide +kernel
theorem dL_event_3 : decode cL_event 3 = .ok (.iload_n 1, 1) := by decide +kernel
theorem dL_event_4 : decode cL_event 4 = .ok (.iload_n 2, 1) := by decide +kernel
theorem dL_event_5 : decode cL_event 5 = .ok (.invokevirtual 59, 3) := by decide +kernel
theorem dL_event_8 : decode cL_event 8 = .ok (.i2l, 1) := by decide +kernel
theorem dL_event_9 : decode cL_event 9 = .ok (.lastore, 1) := by decide +kernel
theorem dL_event_10 : decode cL_event 10 = .ok (.goto 11, 3) := by decide +kernel
theorem dL_event_13 : decode cL_event 13 = .ok (.astore 4, 2) := by decide +kernel
theorem dL_event_15 : decode cL_event 15 = .ok (.iconst 1, 1) := by decide +kernel
theorem dL_event_16 : decode cL_event 16 = .ok (.ireturn, 1) := by decide +kernel
theorem dL_event_17 : decode cL_event 17 = .ok (.astore 4, 2) := by decide +kernel
theorem dL_event_19 : decode cL_event 19 = .ok (.iconst 2, 1) := by decide +kernel
theorem dL_event_20 : decode cL_event 20 = .ok (.ireturn, 1) := by decide +kernel
theorem dL_event_21 : decode cL_event 21 = .ok (.iconst 0, 1) := by decide +kernel
theorem dL_event_22 : decode cL_event 22 = .ok (.ireturn, 1) := by decide +kernel
theorem dL_eventsOf_0 : decode cL_eventsOf 0 = .ok (.aload_n 2, 1) := by decide +kernel
theorem dL_eventsOf_1 : decode cL_eventsOf 1 = .ok (.iconst 0, 1) := by decide +kernel
theorem dL_eventsOf_2 : decode cL_eventsOf 2 = .ok (.aload_n 0, 1) := by decide +kernel
theorem dL_eventsOf_3 : decode cL_eventsOf 3 = .ok (.iload_n 1, 1) := by decide +kernel
theorem dL_eventsOf_4 : decode cL_eventsOf 4 = .ok (.invokevirtual 62, 3) := by decide +kernel
theorem dL_eventsOf_7 : decode cL_eventsOf 7 = .ok (.i2l, 1) := by decide +kernel
theorem dL_eventsOf_8 : decode cL_eventsOf 8 = .ok (.lastore, 1) := by decide +kernel
theorem dL_eventsOf_9 : decode cL_eventsOf 9 = .ok (.goto 6, 3) := by decide +kernel
theorem dL_eventsOf_12 : decode cL_eventsOf 12 = .ok (.astore_n 3, 1) := by decide +kernel
theorem dL_eventsOf_13 : decode cL_eventsOf 13 = .ok (.iconst 1, 1) := by decide +kernel
theorem dL_eventsOf_14 : decode cL_eventsOf 14 = .ok (.ireturn, 1) := by decide +kernel
theorem dL_eventsOf_15 : decode cL_eventsOf 15 = .ok (.iconst 0, 1) := by decide +kernel
theorem dL_eventsOf_16 : decode cL_eventsOf 16 = .ok (.ireturn, 1) := by decide +kernel
theorem dL_limit_0 : decode cL_limit 0 = .ok (.aload 5, 2) := by decide +kernel
theorem dL_limit_2 : decode cL_limit 2 = .ok (.iconst 0, 1) := by decide +kernel
theorem dL_limit_3 : decode cL_limit 3 = .ok (.aload_n 0, 1) := by decide +kernel
theorem dL_limit_4 : decode cL_limit 4 = .ok (.iload_n 1, 1) := by decide +kernel
theorem dL_limit_5 : decode cL_limit 5 = .ok (.iload_n 2, 1) := by decide +kernel
theorem dL_limit_6 : decode cL_limit 6 = .ok (.iload_n 3, 1) := by decide +kernel
theorem dL_limit_7 : decode cL_limit 7 = .ok (.iload 4, 2) := by decide +kernel
theorem dL_limit_9 : decode cL_limit 9 = .ok (.invokevirtual 65, 3) := by decide +kernel
theorem dL_limit_12 : decode cL_limit 12 = .ok (.i2l, 1) := by decide +kernel
theorem dL_limit_13 : decode cL_limit 13 = .ok (.lastore, 1) := by decide +kernel
theorem dL_limit_14 : decode cL_limit 14 = .ok (.goto 11, 3) := by decide +kernel
theorem dL_limit_17 : decode cL_limit 17 = .ok (.astore 6, 2) := by decide +kernel
theorem dL_limit_19 : decode cL_limit 19 = .ok (.iconst 1, 1) := by decide +kernel
theorem dL_limit_20 : decode cL_limit 20 = .ok (.ireturn, 1) := by decide +kernel
theorem dL_limit_21 : decode cL_limit 21 = .ok (.astore 6, 2) := by decide +kernel
theorem dL_limit_23 : decode cL_limit 23 = .ok (.iconst 2, 1) := by decide +kernel
theorem dL_limit_24 : decode cL_limit 24 = .ok (.ireturn, 1) := by decide +kernel
theorem dL_limit_25 : decode cL_limit 25 = .ok (.iconst 0, 1) := by decide +kernel
theorem dL_limit_26 : decode cL_limit 26 = .ok (.ireturn, 1) := by decide +kernel
theorem dL_quietAfter_0 : decode cL_quietAfter 0 = .ok (.aload 4, 2) := by decide +kernel
theorem dL_quietAfter_2 : decode cL_quietAfter 2 = .ok (.iconst 0, 1) := by decide +kernel
theorem dL_quietAfter_3 : decode cL_quietAfter 3 = .ok (.aload_n 0, 1) := by decide +kernel
theorem dL_quietAfter_4 : decode cL_quietAfter 4 = .ok (.iload_n 1, 1) := by decide +kernel
theorem dL_quietAfter_5 : decode cL_quietAfter 5 = .ok (.iload_n 2, 1) := by decide +kernel
theorem dL_quietAfter_6 : decode cL_quietAfter 6 = .ok (.iload_n 3, 1) := by decide +kernel
theorem dL_quietAfter_7 : decode cL_quietAfter 7 = .ok (.invokevirtual 68, 3) := by decide +kernel
theorem dL_quietAfter_10 : decode cL_quietAfter 10 = .ok (.i2l, 1) := by decide +kernel
theorem dL_quietAfter_11 : decode cL_quietAfter 11 = .ok (.lastore, 1) := by decide +kernel
theorem dL_quietAfter_12 : decode cL_quietAfter 12 = .ok (.goto 7, 3) := by decide +kernel
theorem dL_quietAfter_15 : decode cL_quietAfter 15 = .ok (.astore 5, 2) := by decide +kernel
theorem dL_quietAfter_17 : decode cL_quietAfter 17 = .ok (.iconst 1, 1) := by decide +kernel
theorem dL_quietAfter_18 : decode cL_quietAfter 18 = .ok (.ireturn, 1) := by decide +kernel
theorem dL_quietAfter_19 : decode cL_quietAfter 19 = .ok (.iconst 0, 1) := by decide +kernel
theorem dL_quietAfter_20 : decode cL_quietAfter 20 = .ok (.ireturn, 1) := by decide +kernel
theorem dL_lowestOctane_0 : decode cL_lowestOctane 0 = .ok (.aload 4, 2) := by decide +kernel
theorem dL_lowestOctane_2 : decode cL_lowestOctane 2 = .ok (.iconst 0, 1) := by decide +kernel
theorem dL_lowestOctane_3 : decode cL_lowestOctane 3 = .ok (.aload_n 0, 1) := by decide +kernel
theorem dL_lowestOctane_4 : decode cL_lowestOctane 4 = .ok (.iload_n 1, 1) := by decide +kernel
theorem dL_lowestOctane_5 : decode cL_lowestOctane 5 = .ok (.iload_n 2, 1) := by decide +kernel
theorem dL_lowestOctane_6 : decode cL_lowestOctane 6 = .ok (.iload_n 3, 1) := by decide +kernel
theorem dL_lowestOctane_7 : decode cL_lowestOctane 7 = .ok (.invokevirtual 71, 3) := by decide +kernel
theorem dL_lowestOctane_10 : decode cL_lowestOctane 10 = .ok (.i2l, 1) := by decide +kernel
theorem dL_lowestOctane_11 : decode cL_lowestOctane 11 = .ok (.lastore, 1) := by decide +kernel
theorem dL_lowestOctane_12 : decode cL_lowestOctane 12 = .ok (.goto 7, 3) := by decide +kernel
theorem dL_lowestOctane_15 : decode cL_lowestOctane 15 = .ok (.astore 5, 2) := by decide +kernel
theorem dL_lowestOctane_17 : decode cL_lowestOctane 17 = .ok (.iconst 1, 1) := by decide +kernel
theorem dL_lowestOctane_18 : decode cL_lowestOctane 18 = .ok (.ireturn, 1) := by decide +kernel
theorem dL_lowestOctane_19 : decode cL_lowestOctane 19 = .ok (.iconst 0, 1) := by decide +kernel
theorem dL_lowestOctane_20 : decode cL_lowestOctane 20 = .ok (.ireturn, 1) := by decide +kernel
theorem dL_append_0 : decode cL_append 0 = .ok (.aload_n 2, 1) := by decide +kernel
theorem dL_append_1 : decode cL_append 1 = .ok (.iconst 0, 1) := by decide +kernel
theorem dL_append_2 : decode cL_append 2 = .ok (.aload_n 0, 1) := by decide +kernel
theorem dL_append_3 : decode cL_append 3 = .ok (.iload_n 1, 1) := by decide +kernel
theorem dL_append_4 : decode cL_append 4 = .ok (.invokevirtual 74, 3) := by decide +kernel
theorem dL_append_7 : decode cL_append 7 = .ok (.i2l, 1) := by decide +kernel
theorem dL_append_8 : decode cL_append 8 = .ok (.lastore, 1) := by decide +kernel
theorem dL_append_9 : decode cL_append 9 = .ok (.goto 9, 3) := by decide +kernel
theorem dL_append_12 : decode cL_append 12 = .ok (.astore_n 3, 1) := by decide +kernel
theorem dL_append_13 : decode cL_append 13 = .ok (.iconst 1, 1) := by decide +kernel
theorem dL_append_14 : decode cL_append 14 = .ok (.ireturn, 1) := by decide +kernel
theorem dL_append_15 : decode cL_append 15 = .ok (.astore_n 3, 1) := by decide +kernel
theorem dL_append_16 : decode cL_append 16 = .ok (.iconst 2, 1) := by decide +kernel
theorem dL_append_17 : decode cL_append 17 = .ok (.ireturn, 1) := by decide +kernel
theorem dL_append_18 : decode cL_append 18 = .ok (.iconst 0, 1) := by decide +kernel
theorem dL_append_19 : decode cL_append 19 = .ok (.ireturn, 1) := by decide +kernel
theorem dL_undo_0 : decode cL_undo 0 = .ok (.aload_n 1, 1) := by decide +kernel
theorem dL_undo_1 : decode cL_undo 1 = .ok (.iconst 0, 1) := by decide +kernel
theorem dL_undo_2 : decode cL_undo 2 = .ok (.aload_n 0, 1) := by decide +kernel
theorem dL_undo_3 : decode cL_undo 3 = .ok (.invokevirtual 79, 3) := by decide +kernel
theorem dL_undo_6 : decode cL_undo 6 = .ok (.i2l, 1) := by decide +kernel
theorem dL_undo_7 : decode cL_undo 7 = .ok (.lastore, 1) := by decide +kernel
theorem dL_undo_8 : decode cL_undo 8 = .ok (.goto 6, 3) := by decide +kernel
theorem dL_undo_11 : decode cL_undo 11 = .ok (.astore_n 2, 1) := by decide +kernel
theorem dL_undo_12 : decode cL_undo 12 = .ok (.iconst 1, 1) := by decide +kernel
theorem dL_undo_13 : decode cL_undo 13 = .ok (.ireturn, 1) := by decide +kernel
theorem dL_undo_14 : decode cL_undo 14 = .ok (.iconst 0, 1) := by decide +kernel
theorem dL_undo_15 : decode cL_undo 15 = .ok (.ireturn, 1) := by decide +kernel
