theorem dX0_cellOf_0 : decode cX0_cellOf 0 = .ok (.iload_n 0, 1) := by decide +kernel
theorem dX0_cellOf_1 : decode cX0_cellOf 1 = .ok (.sipush 500, 3) := by decide +kernel
theorem dX0_cellOf_4 : decode cX0_cellOf 4 = .ok (.isub, 1) := by decide +kernel
theorem dX0_cellOf_5 : decode cX0_cellOf 5 = .ok (.sipush 1000, 3) := by decide +kernel
theorem dX0_cellOf_8 : decode cX0_cellOf 8 = .ok (.idiv, 1) := by decide +kernel
theorem dX0_cellOf_9 : decode cX0_cellOf 9 = .ok (.iconst 5, 1) := by decide +kernel
theorem dX0_cellOf_10 : decode cX0_cellOf 10 = .ok (.invokestatic 9, 3) := by decide +kernel
theorem dX0_cellOf_13 : decode cX0_cellOf 13 = .ok (.istore_n 2, 1) := by decide +kernel
theorem dX0_cellOf_14 : decode cX0_cellOf 14 = .ok (.iload_n 1, 1) := by decide +kernel
theorem dX0_cellOf_15 : decode cX0_cellOf 15 = .ok (.bipush 25, 2) := by decide +kernel
theorem dX0_cellOf_17 : decode cX0_cellOf 17 = .ok (.idiv, 1) := by decide +kernel
theorem dX0_cellOf_18 : decode cX0_cellOf 18 = .ok (.iconst 3, 1) := by decide +kernel
theorem dX0_cellOf_19 : decode cX0_cellOf 19 = .ok (.invokestatic 9, 3) := by decide +kernel
theorem dX0_cellOf_22 : decode cX0_cellOf 22 = .ok (.istore_n 3, 1) := by decide +kernel
theorem dX0_cellOf_23 : decode cX0_cellOf 23 = .ok (.iconst 4, 1) := by decide +kernel
theorem dX0_cellOf_24 : decode cX0_cellOf 24 = .ok (.iload_n 2, 1) := by decide +kernel
theorem dX0_cellOf_25 : decode cX0_cellOf 25 = .ok (.imul, 1) := by decide +kernel
theorem dX0_cellOf_26 : decode cX0_cellOf 26 = .ok (.iload_n 3, 1) := by decide +kernel
theorem dX0_cellOf_27 : decode cX0_cellOf 27 = .ok (.iadd, 1) := by decide +kernel
theorem dX0_cellOf_28 : decode cX0_cellOf 28 = .ok (.ireturn, 1) := by decide +kernel
theorem dX0_basicAdvance_0 : decode cX0_basicAdvance 0 = .ok (.bipush 100, 2) := by decide +kernel
theorem dX0_basicAdvance_2 : decode cX0_basicAdvance 2 = .ok (.iload_n 0, 1) := by decide +kernel
theorem dX0_basicAdvance_3 : decode cX0_basicAdvance 3 = .ok (.bipush 50, 2) := by decide +kernel
theorem dX0_basicAdvance_5 : decode cX0_basicAdvance 5 = .ok (.idiv, 1) := by decide +kernel
theorem dX0_basicAdvance_6 : decode cX0_basicAdvance 6 = .ok (.iadd, 1) := by decide +kernel
theorem dX0_basicAdvance_7 : decode cX0_basicAdvance 7 = .ok (.iload_n 1, 1) := by decide +kernel
theorem dX0_basicAdvance_8 : decode cX0_basicAdvance 8 = .ok (.isub, 1) := by decide +kernel
theorem dX0_basicAdvance_9 : decode cX0_basicAdvance 9 = .ok (.ireturn, 1) := by decide +kernel
theorem dX0_knockLimit_0 : decode cX0_knockLimit 0 = .ok (.sipush 150, 3) := by decide +kernel
theorem dX0_knockLimit_3 : decode cX0_knockLimit 3 = .ok (.iload_n 0, 1) := by decide +kernel
theorem dX0_knockLimit_4 : decode cX0_knockLimit 4 = .ok (.bipush 60, 2) := by decide +kernel
theorem dX0_knockLimit_6 : decode cX0_knockLimit 6 = .ok (.idiv, 1) := by decide +kernel
theorem dX0_knockLimit_7 : decode cX0_knockLimit 7 = .ok (.iadd, 1) := by decide +kernel
theorem dX0_knockLimit_8 : decode cX0_knockLimit 8 = .ok (.iload_n 1, 1) := by decide +kernel
theorem dX0_knockLimit_9 : decode cX0_knockLimit 9 = .ok (.iconst 3, 1) := by decide +kernel
theorem dX0_knockLimit_10 : decode cX0_knockLimit 10 = .ok (.imul, 1) := by decide +kernel
theorem dX0_knockLimit_11 : decode cX0_knockLimit 11 = .ok (.iconst 2, 1) := by decide +kernel
theorem dX0_knockLimit_12 : decode cX0_knockLimit 12 = .ok (.idiv, 1) := by decide +kernel
theorem dX0_knockLimit_13 : decode cX0_knockLimit 13 = .ok (.isub, 1) := by decide +kernel
theorem dX0_knockLimit_14 : decode cX0_knockLimit 14 = .ok (.iload_n 2, 1) := by decide +kernel
theorem dX0_knockLimit_15 : decode cX0_knockLimit 15 = .ok (.bipush 95, 2) := by decide +kernel
theorem dX0_knockLimit_17 : decode cX0_knockLimit 17 = .ok (.isub, 1) := by decide +kernel
theorem dX0_knockLimit_18 : decode cX0_knockLimit 18 = .ok (.bipush 8, 2) := by decide +kernel
theorem dX0_knockLimit_20 : decode cX0_knockLimit 20 = .ok (.imul, 1) := by decide +kernel
theorem dX0_knockLimit_21 : decode cX0_knockLimit 21 = .ok (.iadd, 1) := by decide +kernel
theorem dX0_knockLimit_22 : decode cX0_knockLimit 22 = .ok (.ireturn, 1) := by decide +kernel
theorem dX1_init_0 : decode cX1_init 0 = .ok (.aload_n 0, 1) := by decide +kernel
theorem dX1_init_1 : decode cX1_init 1 = .ok (.invokespecial 3, 3) := by decide +kernel
theorem dX1_init_4 : decode cX1_init 4 = .ok (.aload_n 0, 1) := by decide +kernel
theorem dX1_init_5 : decode cX1_init 5 = .ok (.new 9, 3) := by decide +kernel
theorem dX1_init_8 : decode cX1_init 8 = .ok (.dup, 1) := by decide +kernel
theorem dX1_init_9 : decode cX1_init 9 = .ok (.bipush 120, 2) := by decide +kernel
theorem dX1_init_11 : decode cX1_init 11 = .ok (.invokespecial 11, 3) := by decide +kernel
theorem dX1_init_14 : decode cX1_init 14 = .ok (.putfield 14, 3) := by decide +kernel
theorem dX1_init_17 : decode cX1_init 17 = .ok (.aload_n 0, 1) := by decide +kernel
theorem dX1_init_18 : decode cX1_init 18 = .ok (.new 9, 3) := by decide +kernel
theorem dX1_init_21 : decode cX1_init 21 = .ok (.dup, 1) := by decide +kernel
theorem dX1_init_22 : decode cX1_init 22 = .ok (.bipush 60, 2) := by decide +kernel
theorem dX1_init_24 : decode cX1_init 24 = .ok (.invokespecial 11, 3) := by decide +kernel
theorem dX1_init_27 : decode cX1_init 27 = .ok (.putfield 20, 3) := by decide +kernel
theorem dX1_init_30 : decode cX1_init 30 = .ok (.return_, 1) := by decide +kernel
theorem dX1_size_0 : decode cX1_size 0 = .ok (.aload_n 0, 1) := by decide +kernel
theorem dX1_size_1 : decode cX1_size 1 = .ok (.getfield 23, 3) := by decide +kernel
theorem dX1_size_4 : decode cX1_size 4 = .ok (.ireturn, 1) := by decide +kernel
theorem dX1_add_0 : decode cX1_add 0 = .ok (.aload_n 0, 1) := by decide +kernel
theorem dX1_add_1 : decode cX1_add 1 = .ok (.getfield 23, 3) := by decide +kernel
theorem dX1_add_4 : decode cX1_add 4 = .ok (.bipush 120, 2) := by decide +kernel
theorem dX1_add_6 : decode cX1_add 6 = .ok (.if_icmp .ge 25, 3) := by decide +kernel
theorem dX1_add_9 : decode cX1_add 9 = .ok (.aload_n 0, 1) := by decide +kernel
theorem dX1_add_10 : decode cX1_add 10 = .ok (.getfield 14, 3) := by decide +kernel
theorem dX1_add_13 : decode cX1_add 13 = .ok (.aload_n 0, 1) := by decide +kernel
theorem dX1_add_14 : decode cX1_add 14 = .ok (.getfield 23, 3) := by decide +kernel
theorem dX1_add_17 : decode cX1_add 17 = .ok (.iload_n 1, 1) := by decide +kernel
theorem dX1_add_18 : decode cX1_add 18 = .ok (.invokevirtual 27, 3) := by decide +kernel
theorem dX1_add_21 : decode cX1_add 21 = .ok (.aload_n 0, 1) := by decide +kernel
theorem dX1_add_22 : decode cX1_add 22 = .ok (.dup, 1) := by decide +kernel
theorem dX1_add_23 : decode cX1_add 23 = .ok (.getfield 23, 3) := by decide +kernel
theorem dX1_add_26 : decode cX1_add 26 = .ok (.iconst 1, 1) := by decide +kernel
theorem dX1_add_27 : decode cX1_add 27 = .ok (.iadd, 1) := by decide +kernel
theorem dX1_add_28 : decode cX1_add 28 = .ok (.putfield 23, 3) := by decide +kernel
theorem dX1_add_31 : decode cX1_add 31 = .ok (.return_, 1) := by decide +kernel
theorem dX2_init_0 : decode cX2_init 0 = .ok (.aload_n 0, 1) := by decide +kernel
theorem dX2_init_1 : decode cX2_init 1 = .ok (.invokespecial 3, 3) := by decide +kernel
theorem dX2_init_4 : decode cX2_init 4 = .ok (.aload_n 0, 1) := by decide +kernel
theorem dX2_init_5 : decode cX2_init 5 = .ok (.iconst 4, 1) := by decide +kernel
theorem dX2_init_6 : decode cX2_init 6 = .ok (.anewarray 9, 3) := by decide +kernel
theorem dX2_init_9 : decode cX2_init 9 = .ok (.putfield 11, 3) := by decide +kernel
theorem dX2_init_12 : decode cX2_init 12 = .ok (.iconst 0, 1) := by decide +kernel
theorem dX2_init_13 : decode cX2_init 13 = .ok (.istore_n 1, 1) := by decide +kernel
theorem dX2_init_14 : decode cX2_init 14 = .ok (.iload_n 1, 1) := by decide +kernel
theorem dX2_init_15 : decode cX2_init 15 = .ok (.aload_n 0, 1) := by decide +kernel
theorem dX2_init_16 : decode cX2_init 16 = .ok (.getfield 11, 3) := by decide +kernel
theorem dX2_init_19 : decode cX2_init 19 = .ok (.arraylength, 1) := by decide +kernel
theorem dX2_init_20 : decode cX2_init 20 = .ok (.if_icmp .ge 22, 3) := by decide +kernel
theorem dX2_init_23 : decode cX2_init 23 = .ok (.aload_n 0, 1) := by decide +kernel
theorem dX2_init_24 : decode cX2_init 24 = .ok (.getfield 11, 3) := by decide +kernel
theorem dX2_init_27 : decode cX2_init 27 = .ok (.iload_n 1, 1) := by decide +kernel
theorem dX2_init_28 : decode cX2_init 28 = .ok (.new 9, 3) := by decide +kernel
theorem dX2_init_31 : decode cX2_init 31 = .ok (.dup, 1) := by decide +kernel
theorem dX2_init_32 : decode cX2_init 32 = .ok (.invokespecial 17, 3) := by decide +kernel
theorem dX2_init_35 : decode cX2_init 35 = .ok (.aastore, 1) := by decide +kernel
theorem dX2_init_36 : decode cX2_init 36 = .ok (.iinc 1 1, 3) := by decide +kernel
theorem dX2_init_39 : decode cX2_init 39 = .ok (.goto (-25), 3) := by decide +kernel
theorem dX2_init_42 : decode cX2_init 42 = .ok (.return_, 1) := by decide +kernel
theorem dX2_size_0 : decode cX2_size 0 = .ok (.aload_n 0, 1) := by decide +kernel
theorem dX2_size_1 : decode cX2_size 1 = .ok (.getfield 18, 3) := by decide +kernel
theorem dX2_size_4 : decode cX2_size 4 = .ok (.ireturn, 1) := by decide +kernel
theorem dX2_keep_0 : decode cX2_keep 0 = .ok (.aload_n 0, 1) := by decide +kernel
theorem dX2_keep_1 : decode cX2_keep 1 = .ok (.aload_n 0, 1) := by decide +kernel
theorem dX2_keep_2 : decode cX2_keep 2 = .ok (.getfield 18, 3) := by decide +kernel
theorem dX2_keep_5 : decode cX2_keep 5 = .ok (.invokevirtual 22, 3) := by decide +kernel
theorem dX2_keep_8 : decode cX2_keep 8 = .ok (.astore_n 2, 1) := by decide +kernel
theorem dX2_keep_9 : decode cX2_keep 9 = .ok (.aload_n 2, 1) := by decide +kernel
theorem dX2_keep_10 : decode cX2_keep 10 = .ok (.ifnull 8, 3) := by decide +kernel
theorem dX2_keep_13 : decode cX2_keep 13 = .ok (.aload_n 2, 1) := by decide +kernel
theorem dX2_keep_14 : decode cX2_keep 14 = .ok (.aload_n 1, 1) := by decide +kernel
theorem dX2_keep_15 : decode cX2_keep 15 = .ok (.invokevirtual 26, 3) := by decide +kernel
theorem dX2_keep_18 : decode cX2_keep 18 = .ok (.aload_n 0, 1) := by decide +kernel
theorem dX2_keep_19 : decode cX2_keep 19 = .ok (.getfield 18, 3) := by decide +kernel
theorem dX2_keep_22 : decode cX2_keep 22 = .ok (.iconst 4, 1) := by decide +kernel
theorem dX2_keep_23 : decode cX2_keep 23 = .ok (.if_icmp .ge 16, 3) := by decide +kernel
theorem dX2_keep_26 : decode cX2_keep 26 = .ok (.aload_n 0, 1) := by decide +kernel
theorem dX2_keep_27 : decode cX2_keep 27 = .ok (.dup, 1) := by decide +kernel
theorem dX2_keep_28 : decode cX2_keep 28 = .ok (.getfield 18, 3) := by decide +kernel
theorem dX2_keep_31 : decode cX2_keep 31 = .ok (.iconst 1, 1) := by decide +kernel
theorem dX2_keep_32 : decode cX2_keep 32 = .ok (.iadd, 1) := by decide +kernel
theorem dX2_keep_33 : decode cX2_keep 33 = .ok (.putfield 18, 3) := by decide +kernel
theorem dX2_keep_36 : decode cX2_keep 36 = .ok (.goto 15, 3) := by decide +kernel
theorem dX2_keep_39 : decode cX2_keep 39 = .ok (.aload_n 0, 1) := by decide +kernel
theorem dX2_keep_40 : decode cX2_keep 40 = .ok (.aload_n 0, 1) := by decide +kernel
theorem dX2_keep_41 : decode cX2_keep 41 = .ok (.getfield 30, 3) := by decide +kernel
theorem dX2_keep_44 : decode cX2_keep 44 = .ok (.iconst 1, 1) := by decide +kernel
theorem dX2_keep_45 : decode cX2_keep 45 = .ok (.iadd, 1) := by decide +kernel
theorem dX2_keep_46 : decode cX2_keep 46 = .ok (.iconst 4, 1) := by decide +kernel
theorem dX2_keep_47 : decode cX2_keep 47 = .ok (.irem, 1) := by decide +kernel
theorem dX2_keep_48 : decode cX2_keep 48 = .ok (.putfield 30, 3) := by decide +kernel
theorem dX2_keep_51 : decode cX2_keep 51 = .ok (.return_, 1) := by decide +kernel
theorem dX2_restore_0 : decode cX2_restore 0 = .ok (.aload_n 0, 1) := by decide +kernel
theorem dX2_restore_1 : decode cX2_restore 1 = .ok (.getfield 18, 3) := by decide +kernel
theorem dX2_restore_4 : decode cX2_restore 4 = .ok (.ifCond .le 31, 3) := by decide +kernel
theorem dX2_restore_7 : decode cX2_restore 7 = .ok (.aload_n 0, 1) := by decide +kernel
theorem dX2_restore_8 : decode cX2_restore 8 = .ok (.dup, 1) := by decide +kernel
theorem dX2_restore_9 : decode cX2_restore 9 = .ok (.getfield 18, 3) := by decide +kernel
theorem dX2_restore_12 : decode cX2_restore 12 = .ok (.iconst 1, 1) := by decide +kernel
theorem dX2_restore_13 : decode cX2_restore 13 = .ok (.isub, 1) := by decide +kernel
theorem dX2_restore_14 : decode cX2_restore 14 = .ok (.putfield 18, 3) := by decide +kernel
theorem dX2_restore_17 : decode cX2_restore 17 = .ok (.aload_n 0, 1) := by decide +kernel
theorem dX2_restore_18 : decode cX2_restore 18 = .ok (.aload_n 0, 1) := by decide +kernel
theorem dX2_restore_19 : decode cX2_restore 19 = .ok (.getfield 18, 3) := by decide +kernel
theorem dX2_restore_22 : decode cX2_restore 22 = .ok (.invokevirtual 22, 3) := by decide +kernel
theorem dX2_restore_25 : decode cX2_restore 25 = .ok (.astore_n 2, 1) := by decide +kernel
theorem dX2_restore_26 : decode cX2_restore 26 = .ok (.aload_n 2, 1) := by decide +kernel
theorem dX2_restore_27 : decode cX2_restore 27 = .ok (.ifnull 8, 3) := by decide +kernel
theorem dX2_restore_30 : decode cX2_restore 30 = .ok (.aload_n 1, 1) := by decide +kernel
theorem dX2_restore_31 : decode cX2_restore 31 = .ok (.aload_n 2, 1) := by decide +kernel
theorem dX2_restore_32 : decode cX2_restore 32 = .ok (.invokevirtual 26, 3) := by decide +kernel
theorem dX2_restore_35 : decode cX2_restore 35 = .ok (.return_, 1) := by decide +kernel
theorem dX2_placeOf_0 : decode cX2_placeOf 0 = .ok (.aload_n 0, 1) := by decide +kernel
theorem dX2_placeOf_1 : decode cX2_placeOf 1 = .ok (.getfield 30, 3) := by decide +kernel
theorem dX2_placeOf_4 : decode cX2_placeOf 4 = .ok (.iload_n 1, 1) := by decide +kernel
theorem dX2_placeOf_5 : decode cX2_placeOf 5 = .ok (.iadd, 1) := by decide +kernel
theorem dX2_placeOf_6 : decode cX2_placeOf 6 = .ok (.iconst 4, 1) := by decide +kernel
theorem dX2_placeOf_7 : decode cX2_placeOf 7 = .ok (.irem, 1) := by decide +kernel
theorem dX2_placeOf_8 : decode cX2_placeOf 8 = .ok (.istore_n 2, 1) := by decide +kernel
theorem dX2_placeOf_9 : decode cX2_placeOf 9 = .ok (.iload_n 2, 1) := by decide +kernel
theorem dX2_placeOf_10 : decode cX2_placeOf 10 = .ok (.ifCond .lt 21, 3) := by decide +kernel
theorem dX2_placeOf_13 : decode cX2_placeOf 13 = .ok (.iload_n 2, 1) := by decide +kernel
theorem dX2_placeOf_14 : decode cX2_placeOf 14 = .ok (.aload_n 0, 1) := by decide +kernel
theorem dX2_placeOf_15 : decode cX2_placeOf 15 = .ok (.getfield 11, 3) := by decide +kernel
theorem dX2_placeOf_18 : decode cX2_placeOf 18 = .ok (.arraylength, 1) := by decide +kernel
theorem dX2_placeOf_19 : decode cX2_placeOf 19 = .ok (.if_icmp .ge 12, 3) := by decide +kernel
theorem dX2_placeOf_22 : decode cX2_placeOf 22 = .ok (.aload_n 0, 1) := by decide +kernel
theorem dX2_placeOf_23 : decode cX2_placeOf 23 = .ok (.getfield 11, 3) := by decide +kernel
theorem dX2_placeOf_26 : decode cX2_placeOf 26 = .ok (.iload_n 2, 1) := by decide +kernel
theorem dX2_placeOf_27 : decode cX2_placeOf 27 = .ok (.aaload, 1) := by decide +kernel
theorem dX2_placeOf_28 : decode cX2_placeOf 28 = .ok (.goto 4, 3) := by decide +kernel
theorem dX2_placeOf_31 : decode cX2_placeOf 31 = .ok (.aconst_null, 1) := by decide +kernel
theorem dX2_placeOf_32 : decode cX2_placeOf 32 = .ok (.areturn, 1) := by decide +kernel
theorem dX3_init_0 : decode cX3_init 0 = .ok (.aload_n 0, 1) := by decide +kernel
theorem dX3_init_1 : decode cX3_init 1 = .ok (.invokespecial 3, 3) := by decide +kernel
theorem dX3_init_4 : decode cX3_init 4 = .ok (.aload_n 0, 1) := by decide +kernel
theorem dX3_init_5 : decode cX3_init 5 = .ok (.new 9, 3) := by decide +kernel
theorem dX3_init_8 : decode cX3_init 8 = .ok (.dup, 1) := by decide +kernel
theorem dX3_init_9 : decode cX3_init 9 = .ok (.bipush 60, 2) := by decide +kernel
theorem dX3_init_11 : decode cX3_init 11 = .ok (.invokespecial 11, 3) := by decide +kernel
theorem dX3_init_14 : decode cX3_init 14 = .ok (.putfield 14, 3) := by decide +kernel
theorem dX3_init_17 : decode cX3_init 17 = .ok (.aload_n 0, 1) := by decide +kernel
theorem dX3_init_18 : decode cX3_init 18 = .ok (.new 9, 3) := by decide +kernel
theorem dX3_init_21 : decode cX3_init 21 = .ok (.dup, 1) := by decide +kernel
theorem dX3_init_22 : decode cX3_init 22 = .ok (.bipush 60, 2) := by decide +kernel
theorem dX3_init_24 : decode cX3_init 24 = .ok (.invokespecial 11, 3) := by decide +kernel
theorem dX3_init_27 : decode cX3_init 27 = .ok (.putfield 20, 3) := by decide +kernel
theorem dX3_init_30 : decode cX3_init 30 = .ok (.aload_n 0, 1) := by decide +kernel
theorem dX3_init_31 : decode cX3_init 31 = .ok (.new 9, 3) := by decide +kernel
theorem dX3_init_34 : decode cX3_init 34 = .ok (.dup, 1) := by decide +kernel
theorem dX3_init_35 : decode cX3_init 35 = .ok (.bipush 60, 2) := by decide +kernel
theorem dX3_init_37 : decode cX3_init 37 = .ok (.invokespecial 11, 3) := by decide +kernel
theorem dX3_init_40 : decode cX3_init 40 = .ok (.putfield 23, 3) := by decide +kernel
theorem dX3_init_43 : decode cX3_init 43 = .ok (.return_, 1) := by decide +kernel
theorem dX3_size_0 : decode cX3_size 0 = .ok (.aload_n 0, 1) := by decide +kernel
theorem dX3_size_1 : decode cX3_size 1 = .ok (.getfield 26, 3) := by decide +kernel
theorem dX3_size_4 : decode cX3_size 4 = .ok (.ireturn, 1) := by decide +kernel
theorem dX3_empty_0 : decode cX3_empty 0 = .ok (.aload_n 0, 1) := by decide +kernel
theorem dX3_empty_1 : decode cX3_empty 1 = .ok (.iconst 0, 1) := by decide +kernel
theorem dX3_empty_2 : decode cX3_empty 2 = .ok (.putfield 30, 3) := by decide +kernel
theorem dX3_empty_5 : decode cX3_empty 5 = .ok (.aload_n 0, 1) := by decide +kernel
theorem dX3_empty_6 : decode cX3_empty 6 = .ok (.iconst 0, 1) := by decide +kernel
theorem dX3_empty_7 : decode cX3_empty 7 = .ok (.putfield 26, 3) := by decide +kernel
theorem dX3_empty_10 : decode cX3_empty 10 = .ok (.return_, 1) := by decide +kernel
theorem dX3_note_0 : decode cX3_note 0 = .ok (.aload_n 0, 1) := by decide +kernel
theorem dX3_note_1 : decode cX3_note 1 = .ok (.aload_n 0, 1) := by decide +kernel
theorem dX3_note_2 : decode cX3_note 2 = .ok (.getfield 26, 3) := by decide +kernel
theorem dX3_note_5 : decode cX3_note 5 = .ok (.invokevirtual 33, 3) := by decide +kernel
theorem dX3_note_8 : decode cX3_note 8 = .ok (.istore 4, 2) := by decide +kernel
theorem dX3_note_10 : decode cX3_note 10 = .ok (.aload_n 0, 1) := by decide +kernel
theorem dX3_note_11 : decode cX3_note 11 = .ok (.getfield 26, 3) := by decide +kernel
theorem dX3_note_14 : decode cX3_note 14 = .ok (.bipush 60, 2) := by decide +kernel
theorem dX3_note_16 : decode cX3_note 16 = .ok (.if_icmp .ge 16, 3) := by decide +kernel
theorem dX3_note_19 : decode cX3_note 19 = .ok (.aload_n 0, 1) := by decide +kernel
theorem dX3_note_20 : decode cX3_note 20 = .ok (.dup, 1) := by decide +kernel
theorem dX3_note_21 : decode cX3_note 21 = .ok (.getfield 26, 3) := by decide +kernel
theorem dX3_note_24 : decode cX3_note 24 = .ok (.iconst 1, 1) := by decide +kernel
theorem dX3_note_25 : decode cX3_note 25 = .ok (.iadd, 1) := by decide +kernel
theorem dX3_note_26 : decode cX3_note 26 = .ok (.putfield 26, 3) := by decide +kernel
theorem dX3_note_29 : decode cX3_note 29 = .ok (.goto 12, 3) := by decide +kernel
theorem dX3_note_32 : decode cX3_note 32 = .ok (.aload_n 0, 1) := by decide +kernel
theorem dX3_note_33 : decode cX3_note 33 = .ok (.aload_n 0, 1) := by decide +kernel
theorem dX3_note_34 : decode cX3_note 34 = .ok (.iconst 1, 1) := by decide +kernel
theorem dX3_note_35 : decode cX3_note 35 = .ok (.invokevirtual 33, 3) := by decide +kernel
theorem dX3_note_38 : decode cX3_note 38 = .ok (.putfield 30, 3) := by decide +kernel
theorem dX3_note_41 : decode cX3_note 41 = .ok (.aload_n 0, 1) := by decide +kernel
theorem dX3_note_42 : decode cX3_note 42 = .ok (.getfield 14, 3) := by decide +kernel
theorem dX3_note_45 : decode cX3_note 45 = .ok (.iload 4, 2) := by decide +kernel
theorem dX3_note_47 : decode cX3_note 47 = .ok (.iload_n 1, 1) := by decide +kernel
theorem dX3_note_48 : decode cX3_note 48 = .ok (.invokevirtual 37, 3) := by decide +kernel
theorem dX3_note_51 : decode cX3_note 51 = .ok (.aload_n 0, 1) := by decide +kernel
theorem dX3_note_52 : decode cX3_note 52 = .ok (.getfield 20, 3) := by decide +kernel
theorem dX3_note_55 : decode cX3_note 55 = .ok (.iload 4, 2) := by decide +kernel
theorem dX3_note_57 : decode cX3_note 57 = .ok (.iload_n 2, 1) := by decide +kernel
theorem dX3_note_58 : decode cX3_note 58 = .ok (.invokevirtual 37, 3) := by decide +kernel
theorem dX3_note_61 : decode cX3_note 61 = .ok (.aload_n 0, 1) := by decide +kernel
theorem dX3_note_62 : decode cX3_note 62 = .ok (.getfield 23, 3) := by decide +kernel
theorem dX3_note_65 : decode cX3_note 65 = .ok (.iload 4, 2) := by decide +kernel
theorem dX3_note_67 : decode cX3_note 67 = .ok (.iload_n 3, 1) := by decide +kernel
theorem dX3_note_68 : decode cX3_note 68 = .ok (.invokevirtual 37, 3) := by decide +kernel
theorem dX3_note_71 : decode cX3_note 71 = .ok (.return_, 1) := by decide +kernel
theorem dX3_about_0 : decode cX3_about 0 = .ok (.aload_n 0, 1) := by decide +kernel
theorem dX3_about_1 : decode cX3_about 1 = .ok (.iload_n 1, 1) := by decide +kernel
theorem dX3_about_2 : decode cX3_about 2 = .ok (.invokevirtual 33, 3) := by decide +kernel
theorem dX3_about_5 : decode cX3_about 5 = .ok (.istore_n 3, 1) := by decide +kernel
theorem dX3_about_6 : decode cX3_about 6 = .ok (.iload_n 2, 1) := by decide +kernel
theorem dX3_about_7 : decode cX3_about 7 = .ok (.lookupswitch 43 #[(0, 25), (1, 34)], 25) := by decide +kernel
theorem dX3_about_32 : decode cX3_about 32 = .ok (.aload_n 0, 1) := by decide +kernel
theorem dX3_about_33 : decode cX3_about 33 = .ok (.getfield 14, 3) := by decide +kernel
theorem dX3_about_36 : decode cX3_about 36 = .ok (.iload_n 3, 1) := by decide +kernel
theorem dX3_about_37 : decode cX3_about 37 = .ok (.invokevirtual 41, 3) := by decide +kernel
theorem dX3_about_40 : decode cX3_about 40 = .ok (.ireturn, 1) := by decide +kernel
theorem dX3_about_41 : decode cX3_about 41 = .ok (.aload_n 0, 1) := by decide +kernel
theorem dX3_about_42 : decode cX3_about 42 = .ok (.getfield 20, 3) := by decide +kernel
theorem dX3_about_45 : decode cX3_about 45 = .ok (.iload_n 3, 1) := by decide +kernel
theorem dX3_about_46 : decode cX3_about 46 = .ok (.invokevirtual 41, 3) := by decide +kernel
theorem dX3_about_49 : decode cX3_about 49 = .ok (.ireturn, 1) := by decide +kernel
theorem dX3_about_50 : decode cX3_about 50 = .ok (.aload_n 0, 1) := by decide +kernel
theorem dX3_about_51 : decode cX3_about 51 = .ok (.getfield 23, 3) := by decide +kernel
theorem dX3_about_54 : decode cX3_about 54 = .ok (.iload_n 3, 1) := by decide +kernel
theorem dX3_about_55 : decode cX3_about 55 = .ok (.invokevirtual 41, 3) := by decide +kernel
theorem dX3_about_58 : decode cX3_about 58 = .ok (.ireturn, 1) := by decide +kernel
theorem dX3_copy_0 : decode cX3_copy 0 = .ok (.aload_n 0, 1) := by decide +kernel
theorem dX3_copy_1 : decode cX3_copy 1 = .ok (.getfield 14, 3) := by decide +kernel
theorem dX3_copy_4 : decode cX3_copy 4 = .ok (.aload_n 1, 1) := by decide +kernel
theorem dX3_copy_5 : decode cX3_copy 5 = .ok (.getfield 14, 3) := by decide +kernel
theorem dX3_copy_8 : decode cX3_copy 8 = .ok (.invokevirtual 44, 3) := by decide +kernel
theorem dX3_copy_11 : decode cX3_copy 11 = .ok (.aload_n 0, 1) := by decide +kernel
theorem dX3_copy_12 : decode cX3_copy 12 = .ok (.getfield 20, 3) := by decide +kernel
theorem dX3_copy_15 : decode cX3_copy 15 = .ok (.aload_n 1, 1) := by decide +kernel
theorem dX3_copy_16 : decode cX3_copy 16 = .ok (.getfield 20, 3) := by decide +kernel
theorem dX3_copy_19 : decode cX3_copy 19 = .ok (.invokevirtual 44, 3) := by decide +kernel
theorem dX3_copy_22 : decode cX3_copy 22 = .ok (.aload_n 0, 1) := by decide +kernel
theorem dX3_copy_23 : decode cX3_copy 23 = .ok (.getfield 23, 3) := by decide +kernel
theorem dX3_copy_26 : decode cX3_copy 26 = .ok (.aload_n 1, 1) := by decide +kernel
theorem dX3_copy_27 : decode cX3_copy 27 = .ok (.getfield 23, 3) := by decide +kernel
theorem dX3_copy_30 : decode cX3_copy 30 = .ok (.invokevirtual 44, 3) := by decide +kernel
theorem dX3_copy_33 : decode cX3_copy 33 = .ok (.aload_n 0, 1) := by decide +kernel
theorem dX3_copy_34 : decode cX3_copy 34 = .ok (.aload_n 1, 1) := by decide +kernel
theorem dX3_copy_35 : decode cX3_copy 35 = .ok (.getfield 30, 3) := by decide +kernel
theorem dX3_copy_38 : decode cX3_copy 38 = .ok (.putfield 30, 3) := by decide +kernel
theorem dX3_copy_41 : decode cX3_copy 41 = .ok (.aload_n 0, 1) := by decide +kernel
theorem dX3_copy_42 : decode cX3_copy 42 = .ok (.aload_n 1, 1) := by decide +kernel
theorem dX3_copy_43 : decode cX3_copy 43 = .ok (.getfield 26, 3) := by decide +kernel
theorem dX3_copy_46 : decode cX3_copy 46 = .ok (.putfield 26, 3) := by decide +kernel
theorem dX3_copy_49 : decode cX3_copy 49 = .ok (.return_, 1) := by decide +kernel
theorem dX3_placeOf_0 : decode cX3_placeOf 0 = .ok (.aload_n 0, 1) := by decide +kernel
theorem dX3_placeOf_1 : decode cX3_placeOf 1 = .ok (.getfield 30, 3) := by decide +kernel
theorem dX3_placeOf_4 : decode cX3_placeOf 4 = .ok (.iload_n 1, 1) := by decide +kernel
theorem dX3_placeOf_5 : decode cX3_placeOf 5 = .ok (.iadd, 1) := by decide +kernel
theorem dX3_placeOf_6 : decode cX3_placeOf 6 = .ok (.bipush 60, 2) := by decide +kernel
theorem dX3_placeOf_8 : decode cX3_placeOf 8 = .ok (.irem, 1) := by decide +kernel
theorem dX3_placeOf_9 : decode cX3_placeOf 9 = .ok (.ireturn, 1) := by decide +kernel
theorem dX4_init_0 : decode cX4_init 0 = .ok (.aload_n 0, 1) := by decide +kernel
theorem dX4_init_1 : decode cX4_init 1 = .ok (.invokespecial 1, 3) := by decide +kernel
theorem dX4_init_4 : decode cX4_init 4 = .ok (.aload_n 0, 1) := by decide +kernel
theorem dX4_init_5 : decode cX4_init 5 = .ok (.iload_n 1, 1) := by decide +kernel
theorem dX4_init_6 : decode cX4_init 6 = .ok (.iconst 0, 1) := by decide +kernel
theorem dX4_init_7 : decode cX4_init 7 = .ok (.invokestatic 7, 3) := by decide +kernel
theorem dX4_init_10 : decode cX4_init 10 = .ok (.newarray .int, 2) := by decide +kernel
theorem dX4_init_12 : decode cX4_init 12 = .ok (.putfield 13, 3) := by decide +kernel
theorem dX4_init_15 : decode cX4_init 15 = .ok (.return_, 1) := by decide +kernel
theorem dX4_at_0 : decode cX4_at 0 = .ok (.iload_n 1, 1) := by decide +kernel
theorem dX4_at_1 : decode cX4_at 1 = .ok (.ifCond .lt 21, 3) := by decide +kernel
theorem dX4_at_4 : decode cX4_at 4 = .ok (.iload_n 1, 1) := by decide +kernel
theorem dX4_at_5 : decode cX4_at 5 = .ok (.aload_n 0, 1) := by decide +kernel
theorem dX4_at_6 : decode cX4_at 6 = .ok (.getfield 13, 3) := by decide +kernel
theorem dX4_at_9 : decode cX4_at 9 = .ok (.arraylength, 1) := by decide +kernel
theorem dX4_at_10 : decode cX4_at 10 = .ok (.if_icmp .ge 12, 3) := by decide +kernel
theorem dX4_at_13 : decode cX4_at 13 = .ok (.aload_n 0, 1) := by decide +kernel
theorem dX4_at_14 : decode cX4_at 14 = .ok (.getfield 13, 3) := by decide +kernel
theorem dX4_at_17 : decode cX4_at 17 = .ok (.iload_n 1, 1) := by decide +kernel
theorem dX4_at_18 : decode cX4_at 18 = .ok (.iaload, 1) := by decide +kernel
theorem dX4_at_19 : decode cX4_at 19 = .ok (.goto 4, 3) := by decide +kernel
theorem dX4_at_22 : decode cX4_at 22 = .ok (.iconst 0, 1) := by decide +kernel
theorem dX4_at_23 : decode cX4_at 23 = .ok (.ireturn, 1) := by decide +kernel
theorem dX4_put_0 : decode cX4_put 0 = .ok (.iload_n 1, 1) := by decide +kernel
theorem dX4_put_1 : decode cX4_put 1 = .ok (.ifCond .lt 19, 3) := by decide +kernel
theorem dX4_put_4 : decode cX4_put 4 = .ok (.iload_n 1, 1) := by decide +kernel
theorem dX4_put_5 : decode cX4_put 5 = .ok (.aload_n 0, 1) := by decide +kernel
theorem dX4_put_6 : decode cX4_put 6 = .ok (.getfield 13, 3) := by decide +kernel
theorem dX4_put_9 : decode cX4_put 9 = .ok (.arraylength, 1) := by decide +kernel
theorem dX4_put_10 : decode cX4_put 10 = .ok (.if_icmp .ge 10, 3) := by decide +kernel
theorem dX4_put_13 : decode cX4_put 13 = .ok (.aload_n 0, 1) := by decide +kernel
theorem dX4_put_14 : decode cX4_put 14 = .ok (.getfield 13, 3) := by decide +kernel
theorem dX4_put_17 : decode cX4_put 17 = .ok (.iload_n 1, 1) := by decide +kernel
theorem dX4_put_18 : decode cX4_put 18 = .ok (.iload_n 2, 1) := by decide +kernel
theorem dX4_put_19 : decode cX4_put 19 = .ok (.iastore, 1) := by decide +kernel
theorem dX4_put_20 : decode cX4_put 20 = .ok (.return_, 1) := by decide +kernel
theorem dX4_raise_0 : decode cX4_raise 0 = .ok (.iload_n 1, 1) := by decide +kernel
theorem dX4_raise_1 : decode cX4_raise 1 = .ok (.ifCond .lt 22, 3) := by decide +kernel
theorem dX4_raise_4 : decode cX4_raise 4 = .ok (.iload_n 1, 1) := by decide +kernel
theorem dX4_raise_5 : decode cX4_raise 5 = .ok (.aload_n 0, 1) := by decide +kernel
theorem dX4_raise_6 : decode cX4_raise 6 = .ok (.getfield 13, 3) := by decide +kernel
theorem dX4_raise_9 : decode cX4_raise 9 = .ok (.arraylength, 1) := by decide +kernel
theorem dX4_raise_10 : decode cX4_raise 10 = .ok (.if_icmp .ge 13, 3) := by decide +kernel
theorem dX4_raise_13 : decode cX4_raise 13 = .ok (.aload_n 0, 1) := by decide +kernel
theorem dX4_raise_14 : decode cX4_raise 14 = .ok (.getfield 13, 3) := by decide +kernel
theorem dX4_raise_17 : decode cX4_raise 17 = .ok (.iload_n 1, 1) := by decide +kernel
theorem dX4_raise_18 : decode cX4_raise 18 = .ok (.dup2, 1) := by decide +kernel
theorem dX4_raise_19 : decode cX4_raise 19 = .ok (.iaload, 1) := by decide +kernel
theorem dX4_raise_20 : decode cX4_raise 20 = .ok (.iload_n 2, 1) := by decide +kernel
theorem dX4_raise_21 : decode cX4_raise 21 = .ok (.iadd, 1) := by decide +kernel
theorem dX4_raise_22 : decode cX4_raise 22 = .ok (.iastore, 1) := by decide +kernel
theorem dX4_raise_23 : decode cX4_raise 23 = .ok (.return_, 1) := by decide +kernel
theorem dX4_fill_0 : decode cX4_fill 0 = .ok (.iconst 0, 1) := by decide +kernel
theorem dX4_fill_1 : decode cX4_fill 1 = .ok (.istore_n 2, 1) := by decide +kernel
theorem dX4_fill_2 : decode cX4_fill 2 = .ok (.iload_n 2, 1) := by decide +kernel
theorem dX4_fill_3 : decode cX4_fill 3 = .ok (.aload_n 0, 1) := by decide +kernel
theorem dX4_fill_4 : decode cX4_fill 4 = .ok (.getfield 13, 3) := by decide +kernel
theorem dX4_fill_7 : decode cX4_fill 7 = .ok (.arraylength, 1) := by decide +kernel
theorem dX4_fill_8 : decode cX4_fill 8 = .ok (.if_icmp .ge 16, 3) := by decide +kernel
theorem dX4_fill_11 : decode cX4_fill 11 = .ok (.aload_n 0, 1) := by decide +kernel
theorem dX4_fill_12 : decode cX4_fill 12 = .ok (.getfield 13, 3) := by decide +kernel
theorem dX4_fill_15 : decode cX4_fill 15 = .ok (.iload_n 2, 1) := by decide +kernel
theorem dX4_fill_16 : decode cX4_fill 16 = .ok (.iload_n 1, 1) := by decide +kernel
theorem dX4_fill_17 : decode cX4_fill 17 = .ok (.iastore, 1) := by decide +kernel
theorem dX4_fill_18 : decode cX4_fill 18 = .ok (.iinc 2 1, 3) := by decide +kernel
theorem dX4_fill_21 : decode cX4_fill 21 = .ok (.goto (-19), 3) := by decide +kernel
theorem dX4_fill_24 : decode cX4_fill 24 = .ok (.return_, 1) := by decide +kernel
theorem dX4_copy_0 : decode cX4_copy 0 = .ok (.iconst 0, 1) := by decide +kernel
theorem dX4_copy_1 : decode cX4_copy 1 = .ok (.istore_n 2, 1) := by decide +kernel
theorem dX4_copy_2 : decode cX4_copy 2 = .ok (.iload_n 2, 1) := by decide +kernel
theorem dX4_copy_3 : decode cX4_copy 3 = .ok (.aload_n 0, 1) := by decide +kernel
theorem dX4_copy_4 : decode cX4_copy 4 = .ok (.getfield 13, 3) := by decide +kernel
theorem dX4_copy_7 : decode cX4_copy 7 = .ok (.arraylength, 1) := by decide +kernel
theorem dX4_copy_8 : decode cX4_copy 8 = .ok (.if_icmp .ge 20, 3) := by decide +kernel
theorem dX4_copy_11 : decode cX4_copy 11 = .ok (.aload_n 0, 1) := by decide +kernel
theorem dX4_copy_12 : decode cX4_copy 12 = .ok (.getfield 13, 3) := by decide +kernel
theorem dX4_copy_15 : decode cX4_copy 15 = .ok (.iload_n 2, 1) := by decide +kernel
theorem dX4_copy_16 : decode cX4_copy 16 = .ok (.aload_n 1, 1) := by decide +kernel
theorem dX4_copy_17 : decode cX4_copy 17 = .ok (.iload_n 2, 1) := by decide +kernel
theorem dX4_copy_18 : decode cX4_copy 18 = .ok (.invokevirtual 19, 3) := by decide +kernel
theorem dX4_copy_21 : decode cX4_copy 21 = .ok (.iastore, 1) := by decide +kernel
theorem dX4_copy_22 : decode cX4_copy 22 = .ok (.iinc 2 1, 3) := by decide +kernel
theorem dX4_copy_25 : decode cX4_copy 25 = .ok (.goto (-23), 3) := by decide +kernel
theorem dX4_copy_28 : decode cX4_copy 28 = .ok (.return_, 1) := by decide +kernel
theorem dX5_init_0 : decode cX5_init 0 = .ok (.aload_n 0, 1) := by decide +kernel
theorem dX5_init_1 : decode cX5_init 1 = .ok (.invokespecial 3, 3) := by decide +kernel
theorem dX5_init_4 : decode cX5_init 4 = .ok (.aload_n 0, 1) := by decide +kernel
theorem dX5_init_5 : decode cX5_init 5 = .ok (.new 9, 3) := by decide +kernel
theorem dX5_init_8 : decode cX5_init 8 = .ok (.dup, 1) := by decide +kernel
theorem dX5_init_9 : decode cX5_init 9 = .ok (.bipush 8, 2) := by decide +kernel
theorem dX5_init_11 : decode cX5_init 11 = .ok (.invokespecial 11, 3) := by decide +kernel
theorem dX5_init_14 : decode cX5_init 14 = .ok (.putfield 14, 3) := by decide +kernel
theorem dX5_init_17 : decode cX5_init 17 = .ok (.aload_n 0, 1) := by decide +kernel
theorem dX5_init_18 : decode cX5_init 18 = .ok (.new 9, 3) := by decide +kernel
theorem dX5_init_21 : decode cX5_init 21 = .ok (.dup, 1) := by decide +kernel
theorem dX5_init_22 : decode cX5_init 22 = .ok (.bipush 8, 2) := by decide +kernel
theorem dX5_init_24 : decode cX5_init 24 = .ok (.invokespecial 11, 3) := by decide +kernel
theorem dX5_init_27 : decode cX5_init 27 = .ok (.putfield 20, 3) := by decide +kernel
theorem dX5_init_30 : decode cX5_init 30 = .ok (.aload_n 0, 1) := by decide +kernel
theorem dX5_init_31 : decode cX5_init 31 = .ok (.new 9, 3) := by decide +kernel
theorem dX5_init_34 : decode cX5_init 34 = .ok (.dup, 1) := by decide +kernel
theorem dX5_init_35 : decode cX5_init 35 = .ok (.bipush 8, 2) := by decide +kernel
theorem dX5_init_37 : decode cX5_init 37 = .ok (.invokespecial 11, 3) := by decide +kernel
theorem dX5_init_40 : decode cX5_init 40 = .ok (.putfield 23, 3) := by decide +kernel
theorem dX5_init_43 : decode cX5_init 43 = .ok (.aload_n 0, 1) := by decide +kernel
theorem dX5_init_44 : decode cX5_init 44 = .ok (.new 9, 3) := by decide +kernel
theorem dX5_init_47 : decode cX5_init 47 = .ok (.dup, 1) := by decide +kernel
theorem dX5_init_48 : decode cX5_init 48 = .ok (.bipush 8, 2) := by decide +kernel
theorem dX5_init_50 : decode cX5_init 50 = .ok (.invokespecial 11, 3) := by decide +kernel
theorem dX5_init_53 : decode cX5_init 53 = .ok (.putfield 26, 3) := by decide +kernel
theorem dX5_init_56 : decode cX5_init 56 = .ok (.aload_n 0, 1) := by decide +kernel
theorem dX5_init_57 : decode cX5_init 57 = .ok (.new 9, 3) := by decide +kernel
theorem dX5_init_60 : decode cX5_init 60 = .ok (.dup, 1) := by decide +kernel
theorem dX5_init_61 : decode cX5_init 61 = .ok (.bipush 8, 2) := by decide +kernel
theorem dX5_init_63 : decode cX5_init 63 = .ok (.invokespecial 11, 3) := by decide +kernel
theorem dX5_init_66 : decode cX5_init 66 = .ok (.putfield 29, 3) := by decide +kernel
theorem dX5_init_69 : decode cX5_init 69 = .ok (.aload_n 0, 1) := by decide +kernel
theorem dX5_init_70 : decode cX5_init 70 = .ok (.new 9, 3) := by decide +kernel
theorem dX5_init_73 : decode cX5_init 73 = .ok (.dup, 1) := by decide +kernel
theorem dX5_init_74 : decode cX5_init 74 = .ok (.bipush 24, 2) := by decide +kernel
theorem dX5_init_76 : decode cX5_init 76 = .ok (.invokespecial 11, 3) := by decide +kernel
theorem dX5_init_79 : decode cX5_init 79 = .ok (.putfield 32, 3) := by decide +kernel
theorem dX5_init_82 : decode cX5_init 82 = .ok (.aload_n 0, 1) := by decide +kernel
theorem dX5_init_83 : decode cX5_init 83 = .ok (.new 35, 3) := by decide +kernel
theorem dX5_init_86 : decode cX5_init 86 = .ok (.dup, 1) := by decide +kernel
theorem dX5_init_87 : decode cX5_init 87 = .ok (.invokespecial 37, 3) := by decide +kernel
theorem dX5_init_90 : decode cX5_init 90 = .ok (.putfield 38, 3) := by decide +kernel
theorem dX5_init_93 : decode cX5_init 93 = .ok (.iconst 0, 1) := by decide +kernel
theorem dX5_init_94 : decode cX5_init 94 = .ok (.istore_n 1, 1) := by decide +kernel
theorem dX5_init_95 : decode cX5_init 95 = .ok (.iload_n 1, 1) := by decide +kernel
theorem dX5_init_96 : decode cX5_init 96 = .ok (.getstatic 42, 3) := by decide +kernel
theorem dX5_init_99 : decode cX5_init 99 = .ok (.arraylength, 1) := by decide +kernel
theorem dX5_init_100 : decode cX5_init 100 = .ok (.if_icmp .ge 22, 3) := by decide +kernel
theorem dX5_init_103 : decode cX5_init 103 = .ok (.aload_n 0, 1) := by decide +kernel
theorem dX5_init_104 : decode cX5_init 104 = .ok (.getfield 14, 3) := by decide +kernel
theorem dX5_init_107 : decode cX5_init 107 = .ok (.iload_n 1, 1) := by decide +kernel
theorem dX5_init_108 : decode cX5_init 108 = .ok (.getstatic 42, 3) := by decide +kernel
theorem dX5_init_111 : decode cX5_init 111 = .ok (.iload_n 1, 1) := by decide +kernel
theorem dX5_init_112 : decode cX5_init 112 = .ok (.iaload, 1) := by decide +kernel
theorem dX5_init_113 : decode cX5_init 113 = .ok (.invokevirtual 46, 3) := by decide +kernel
theorem dX5_init_116 : decode cX5_init 116 = .ok (.iinc 1 1, 3) := by decide +kernel
theorem dX5_init_119 : decode cX5_init 119 = .ok (.goto (-24), 3) := by decide +kernel
theorem dX5_init_122 : decode cX5_init 122 = .ok (.aload_n 0, 1) := by decide +kernel
theorem dX5_init_123 : decode cX5_init 123 = .ok (.iconst 1, 1) := by decide +kernel
theorem dX5_init_124 : decode cX5_init 124 = .ok (.putfield 50, 3) := by decide +kernel
theorem dX5_init_127 : decode cX5_init 127 = .ok (.aload_n 0, 1) := by decide +kernel
theorem dX5_init_128 : decode cX5_init 128 = .ok (.iconst 0, 1) := by decide +kernel
theorem dX5_init_129 : decode cX5_init 129 = .ok (.putfield 54, 3) := by decide +kernel
theorem dX5_init_132 : decode cX5_init 132 = .ok (.aload_n 0, 1) := by decide +kernel
theorem dX5_init_133 : decode cX5_init 133 = .ok (.iconst 4, 1) := by decide +kernel
theorem dX5_init_134 : decode cX5_init 134 = .ok (.invokevirtual 58, 3) := by decide +kernel
theorem dX5_init_137 : decode cX5_init 137 = .ok (.return_, 1) := by decide +kernel
theorem dX5_restart_0 : decode cX5_restart 0 = .ok (.aload_n 0, 1) := by decide +kernel
theorem dX5_restart_1 : decode cX5_restart 1 = .ok (.iload_n 1, 1) := by decide +kernel
theorem dX5_restart_2 : decode cX5_restart 2 = .ok (.putfield 61, 3) := by decide +kernel
theorem dX5_restart_5 : decode cX5_restart 5 = .ok (.aload_n 0, 1) := by decide +kernel
theorem dX5_restart_6 : decode cX5_restart 6 = .ok (.getfield 20, 3) := by decide +kernel
theorem dX5_restart_9 : decode cX5_restart 9 = .ok (.iconst 0, 1) := by decide +kernel
theorem dX5_restart_10 : decode cX5_restart 10 = .ok (.invokevirtual 64, 3) := by decide +kernel
theorem dX5_restart_13 : decode cX5_restart 13 = .ok (.aload_n 0, 1) := by decide +kernel
theorem dX5_restart_14 : decode cX5_restart 14 = .ok (.getfield 23, 3) := by decide +kernel
theorem dX5_restart_17 : decode cX5_restart 17 = .ok (.ldc 67, 2) := by decide +kernel
theorem dX5_restart_19 : decode cX5_restart 19 = .ok (.invokevirtual 64, 3) := by decide +kernel
theorem dX5_restart_22 : decode cX5_restart 22 = .ok (.aload_n 0, 1) := by decide +kernel
theorem dX5_restart_23 : decode cX5_restart 23 = .ok (.getfield 26, 3) := by decide +kernel
theorem dX5_restart_26 : decode cX5_restart 26 = .ok (.iconst 0, 1) := by decide +kernel
theorem dX5_restart_27 : decode cX5_restart 27 = .ok (.invokevirtual 64, 3) := by decide +kernel
theorem dX5_restart_30 : decode cX5_restart 30 = .ok (.aload_n 0, 1) := by decide +kernel
theorem dX5_restart_31 : decode cX5_restart 31 = .ok (.getfield 29, 3) := by decide +kernel
theorem dX5_restart_34 : decode cX5_restart 34 = .ok (.iconst 0, 1) := by decide +kernel
theorem dX5_restart_35 : decode cX5_restart 35 = .ok (.invokevirtual 64, 3) := by decide +kernel
theorem dX5_restart_38 : decode cX5_restart 38 = .ok (.aload_n 0, 1) := by decide +kernel
theorem dX5_restart_39 : decode cX5_restart 39 = .ok (.getfield 32, 3) := by decide +kernel
theorem dX5_restart_42 : decode cX5_restart 42 = .ok (.iconst 0, 1) := by decide +kernel
theorem dX5_restart_43 : decode cX5_restart 43 = .ok (.invokevirtual 64, 3) := by decide +kernel
theorem dX5_restart_46 : decode cX5_restart 46 = .ok (.aload_n 0, 1) := by decide +kernel
theorem dX5_restart_47 : decode cX5_restart 47 = .ok (.getfield 38, 3) := by decide +kernel
theorem dX5_restart_50 : decode cX5_restart 50 = .ok (.invokevirtual 68, 3) := by decide +kernel
theorem dX5_restart_53 : decode cX5_restart 53 = .ok (.aload_n 0, 1) := by decide +kernel
theorem dX5_restart_54 : decode cX5_restart 54 = .ok (.iconst 0, 1) := by decide +kernel
theorem dX5_restart_55 : decode cX5_restart 55 = .ok (.putfield 71, 3) := by decide +kernel
theorem dX5_restart_58 : decode cX5_restart 58 = .ok (.aload_n 0, 1) := by decide +kernel
theorem dX5_restart_59 : decode cX5_restart 59 = .ok (.iconst (-1), 1) := by decide +kernel
theorem dX5_restart_60 : decode cX5_restart 60 = .ok (.putfield 74, 3) := by decide +kernel
theorem dX5_restart_63 : decode cX5_restart 63 = .ok (.aload_n 0, 1) := by decide +kernel
theorem dX5_restart_64 : decode cX5_restart 64 = .ok (.iconst 0, 1) := by decide +kernel
theorem dX5_restart_65 : decode cX5_restart 65 = .ok (.putfield 77, 3) := by decide +kernel
theorem dX5_restart_68 : decode cX5_restart 68 = .ok (.aload_n 0, 1) := by decide +kernel
theorem dX5_restart_69 : decode cX5_restart 69 = .ok (.iconst 0, 1) := by decide +kernel
theorem dX5_restart_70 : decode cX5_restart 70 = .ok (.putfield 80, 3) := by decide +kernel
theorem dX5_restart_73 : decode cX5_restart 73 = .ok (.aload_n 0, 1) := by decide +kernel
theorem dX5_restart_74 : decode cX5_restart 74 = .ok (.iconst 0, 1) := by decide +kernel
theorem dX5_restart_75 : decode cX5_restart 75 = .ok (.putfield 83, 3) := by decide +kernel
theorem dX5_restart_78 : decode cX5_restart 78 = .ok (.aload_n 0, 1) := by decide +kernel
theorem dX5_restart_79 : decode cX5_restart 79 = .ok (.iconst 0, 1) := by decide +kernel
theorem dX5_restart_80 : decode cX5_restart 80 = .ok (.putfield 86, 3) := by decide +kernel
theorem dX5_restart_83 : decode cX5_restart 83 = .ok (.aload_n 0, 1) := by decide +kernel
theorem dX5_restart_84 : decode cX5_restart 84 = .ok (.iconst 0, 1) := by decide +kernel
theorem dX5_restart_85 : decode cX5_restart 85 = .ok (.putfield 89, 3) := by decide +kernel
theorem dX5_restart_88 : decode cX5_restart 88 = .ok (.return_, 1) := by decide +kernel
theorem dX5_copy_0 : decode cX5_copy 0 = .ok (.aload_n 0, 1) := by decide +kernel
theorem dX5_copy_1 : decode cX5_copy 1 = .ok (.getfield 14, 3) := by decide +kernel
theorem dX5_copy_4 : decode cX5_copy 4 = .ok (.aload_n 1, 1) := by decide +kernel
theorem dX5_copy_5 : decode cX5_copy 5 = .ok (.getfield 14, 3) := by decide +kernel
theorem dX5_copy_8 : decode cX5_copy 8 = .ok (.invokevirtual 92, 3) := by decide +kernel
theorem dX5_copy_11 : decode cX5_copy 11 = .ok (.aload_n 0, 1) := by decide +kernel
theorem dX5_copy_12 : decode cX5_copy 12 = .ok (.getfield 20, 3) := by decide +kernel
theorem dX5_copy_15 : decode cX5_copy 15 = .ok (.aload_n 1, 1) := by decide +kernel
theorem dX5_copy_16 : decode cX5_copy 16 = .ok (.getfield 20, 3) := by decide +kernel
theorem dX5_copy_19 : decode cX5_copy 19 = .ok (.invokevirtual 92, 3) := by decide +kernel
theorem dX5_copy_22 : decode cX5_copy 22 = .ok (.aload_n 0, 1) := by decide +kernel
theorem dX5_copy_23 : decode cX5_copy 23 = .ok (.getfield 23, 3) := by decide +kernel
theorem dX5_copy_26 : decode cX5_copy 26 = .ok (.aload_n 1, 1) := by decide +kernel
theorem dX5_copy_27 : decode cX5_copy 27 = .ok (.getfield 23, 3) := by decide +kernel
theorem dX5_copy_30 : decode cX5_copy 30 = .ok (.invokevirtual 92, 3) := by decide +kernel
theorem dX5_copy_33 : decode cX5_copy 33 = .ok (.aload_n 0, 1) := by decide +kernel
theorem dX5_copy_34 : decode cX5_copy 34 = .ok (.getfield 26, 3) := by decide +kernel
theorem dX5_copy_37 : decode cX5_copy 37 = .ok (.aload_n 1, 1) := by decide +kernel
theorem dX5_copy_38 : decode cX5_copy 38 = .ok (.getfield 26, 3) := by decide +kernel
theorem dX5_copy_41 : decode cX5_copy 41 = .ok (.invokevirtual 92, 3) := by decide +kernel
theorem dX5_copy_44 : decode cX5_copy 44 = .ok (.aload_n 0, 1) := by decide +kernel
theorem dX5_copy_45 : decode cX5_copy 45 = .ok (.getfield 29, 3) := by decide +kernel
theorem dX5_copy_48 : decode cX5_copy 48 = .ok (.aload_n 1, 1) := by decide +kernel
theorem dX5_copy_49 : decode cX5_copy 49 = .ok (.getfield 29, 3) := by decide +kernel
theorem dX5_copy_52 : decode cX5_copy 52 = .ok (.invokevirtual 92, 3) := by decide +kernel
theorem dX5_copy_55 : decode cX5_copy 55 = .ok (.aload_n 0, 1) := by decide +kernel
theorem dX5_copy_56 : decode cX5_copy 56 = .ok (.getfield 32, 3) := by decide +kernel
theorem dX5_copy_59 : decode cX5_copy 59 = .ok (.aload_n 1, 1) := by decide +kernel
theorem dX5_copy_60 : decode cX5_copy 60 = .ok (.getfield 32, 3) := by decide +kernel
theorem dX5_copy_63 : decode cX5_copy 63 = .ok (.invokevirtual 92, 3) := by decide +kernel
theorem dX5_copy_66 : decode cX5_copy 66 = .ok (.aload_n 0, 1) := by decide +kernel
theorem dX5_copy_67 : decode cX5_copy 67 = .ok (.getfield 38, 3) := by decide +kernel
theorem dX5_copy_70 : decode cX5_copy 70 = .ok (.aload_n 1, 1) := by decide +kernel
theorem dX5_copy_71 : decode cX5_copy 71 = .ok (.getfield 38, 3) := by decide +kernel
theorem dX5_copy_74 : decode cX5_copy 74 = .ok (.invokevirtual 96, 3) := by decide +kernel
theorem dX5_copy_77 : decode cX5_copy 77 = .ok (.aload_n 0, 1) := by decide +kernel
theorem dX5_copy_78 : decode cX5_copy 78 = .ok (.aload_n 1, 1) := by decide +kernel
theorem dX5_copy_79 : decode cX5_copy 79 = .ok (.getfield 61, 3) := by decide +kernel
theorem dX5_copy_82 : decode cX5_copy 82 = .ok (.putfield 61, 3) := by decide +kernel
theorem dX5_copy_85 : decode cX5_copy 85 = .ok (.aload_n 0, 1) := by decide +kernel
theorem dX5_copy_86 : decode cX5_copy 86 = .ok (.aload_n 1, 1) := by decide +kernel
theorem dX5_copy_87 : decode cX5_copy 87 = .ok (.getfield 71, 3) := by decide +kernel
theorem dX5_copy_90 : decode cX5_copy 90 = .ok (.putfield 71, 3) := by decide +kernel
theorem dX5_copy_93 : decode cX5_copy 93 = .ok (.aload_n 0, 1) := by decide +kernel
theorem dX5_copy_94 : decode cX5_copy 94 = .ok (.aload_n 1, 1) := by decide +kernel
theorem dX5_copy_95 : decode cX5_copy 95 = .ok (.getfield 74, 3) := by decide +kernel
theorem dX5_copy_98 : decode cX5_copy 98 = .ok (.putfield 74, 3) := by decide +kernel
theorem dX5_copy_101 : decode cX5_copy 101 = .ok (.aload_n 0, 1) := by decide +kernel
theorem dX5_copy_102 : decode cX5_copy 102 = .ok (.aload_n 1, 1) := by decide +kernel
theorem dX5_copy_103 : decode cX5_copy 103 = .ok (.getfield 77, 3) := by decide +kernel
theorem dX5_copy_106 : decode cX5_copy 106 = .ok (.putfield 77, 3) := by decide +kernel
theorem dX5_copy_109 : decode cX5_copy 109 = .ok (.aload_n 0, 1) := by decide +kernel
theorem dX5_copy_110 : decode cX5_copy 110 = .ok (.aload_n 1, 1) := by decide +kernel
theorem dX5_copy_111 : decode cX5_copy 111 = .ok (.getfield 80, 3) := by decide +kernel
theorem dX5_copy_114 : decode cX5_copy 114 = .ok (.putfield 80, 3) := by decide +kernel
theorem dX5_copy_117 : decode cX5_copy 117 = .ok (.aload_n 0, 1) := by decide +kernel
theorem dX5_copy_118 : decode cX5_copy 118 = .ok (.aload_n 1, 1) := by decide +kernel
theorem dX5_copy_119 : decode cX5_copy 119 = .ok (.getfield 83, 3) := by decide +kernel
theorem dX5_copy_122 : decode cX5_copy 122 = .ok (.putfield 83, 3) := by decide +kernel
theorem dX5_copy_125 : decode cX5_copy 125 = .ok (.aload_n 0, 1) := by decide +kernel
theorem dX5_copy_126 : decode cX5_copy 126 = .ok (.aload_n 1, 1) := by decide +kernel
theorem dX5_copy_127 : decode cX5_copy 127 = .ok (.getfield 86, 3) := by decide +kernel
theorem dX5_copy_130 : decode cX5_copy 130 = .ok (.putfield 86, 3) := by decide +kernel
theorem dX5_copy_133 : decode cX5_copy 133 = .ok (.aload_n 0, 1) := by decide +kernel
theorem dX5_copy_134 : decode cX5_copy 134 = .ok (.aload_n 1, 1) := by decide +kernel
theorem dX5_copy_135 : decode cX5_copy 135 = .ok (.getfield 89, 3) := by decide +kernel
theorem dX5_copy_138 : decode cX5_copy 138 = .ok (.putfield 89, 3) := by decide +kernel
theorem dX5_copy_141 : decode cX5_copy 141 = .ok (.aload_n 0, 1) := by decide +kernel
theorem dX5_copy_142 : decode cX5_copy 142 = .ok (.aload_n 1, 1) := by decide +kernel
theorem dX5_copy_143 : decode cX5_copy 143 = .ok (.getfield 50, 3) := by decide +kernel
theorem dX5_copy_146 : decode cX5_copy 146 = .ok (.putfield 50, 3) := by decide +kernel
theorem dX5_copy_149 : decode cX5_copy 149 = .ok (.aload_n 0, 1) := by decide +kernel
theorem dX5_copy_150 : decode cX5_copy 150 = .ok (.aload_n 1, 1) := by decide +kernel
theorem dX5_copy_151 : decode cX5_copy 151 = .ok (.getfield 54, 3) := by decide +kernel
theorem dX5_copy_154 : decode cX5_copy 154 = .ok (.putfield 54, 3) := by decide +kernel
theorem dX5_copy_157 : decode cX5_copy 157 = .ok (.return_, 1) := by decide +kernel
theorem dX5_settingOrCylinders_0 : decode cX5_settingOrCylinders 0 = .ok (.iload_n 1, 1) := by decide +kernel
theorem dX5_settingOrCylinders_1 : decode cX5_settingOrCylinders 1 = .ok (.bipush 8, 2) := by decide +kernel
theorem dX5_settingOrCylinders_3 : decode cX5_settingOrCylinders 3 = .ok (.if_icmp .ne 10, 3) := by decide +kernel
theorem dX5_settingOrCylinders_6 : decode cX5_settingOrCylinders 6 = .ok (.aload_n 0, 1) := by decide +kernel
theorem dX5_settingOrCylinders_7 : decode cX5_settingOrCylinders 7 = .ok (.getfield 61, 3) := by decide +kernel
theorem dX5_settingOrCylinders_10 : decode cX5_settingOrCylinders 10 = .ok (.goto 11, 3) := by decide +kernel
theorem dX5_settingOrCylinders_13 : decode cX5_settingOrCylinders 13 = .ok (.aload_n 0, 1) := by decide +kernel
theorem dX5_settingOrCylinders_14 : decode cX5_settingOrCylinders 14 = .ok (.getfield 14, 3) := by decide +kernel
theorem dX5_settingOrCylinders_17 : decode cX5_settingOrCylinders 17 = .ok (.iload_n 1, 1) := by decide +kernel
theorem dX5_settingOrCylinders_18 : decode cX5_settingOrCylinders 18 = .ok (.invokevirtual 99, 3) := by decide +kernel
theorem dX5_settingOrCylinders_21 : decode cX5_settingOrCylinders 21 = .ok (.ireturn, 1) := by decide +kernel
theorem dX5_aboutCylinder_0 : decode cX5_aboutCylinder 0 = .ok (.iload_n 2, 1) := by decide +kernel
theorem dX5_aboutCylinder_1 : decode cX5_aboutCylinder 1 = .ok (.tableswitch 64 0 3 #[31, 40, 49, 58], 31) := by decide +kernel
theorem dX5_aboutCylinder_32 : decode cX5_aboutCylinder 32 = .ok (.aload_n 0, 1) := by decide +kernel
theorem dX5_aboutCylinder_33 : decode cX5_aboutCylinder 33 = .ok (.getfield 20, 3) := by decide +kernel
theorem dX5_aboutCylinder_36 : decode cX5_aboutCylinder 36 = .ok (.iload_n 1, 1) := by decide +kernel
theorem dX5_aboutCylinder_37 : decode cX5_aboutCylinder 37 = .ok (.invokevirtual 99, 3) := by decide +kernel
theorem dX5_aboutCylinder_40 : decode cX5_aboutCylinder 40 = .ok (.ireturn, 1) := by decide +kernel
theorem dX5_aboutCylinder_41 : decode cX5_aboutCylinder 41 = .ok (.aload_n 0, 1) := by decide +kernel
theorem dX5_aboutCylinder_42 : decode cX5_aboutCylinder 42 = .ok (.getfield 23, 3) := by decide +kernel
theorem dX5_aboutCylinder_45 : decode cX5_aboutCylinder 45 = .ok (.iload_n 1, 1) := by decide +kernel
theorem dX5_aboutCylinder_46 : decode cX5_aboutCylinder 46 = .ok (.invokevirtual 99, 3) := by decide +kernel
theorem dX5_aboutCylinder_49 : decode cX5_aboutCylinder 49 = .ok (.ireturn, 1) := by decide +kernel
theorem dX5_aboutCylinder_50 : decode cX5_aboutCylinder 50 = .ok (.aload_n 0, 1) := by decide +kernel
theorem dX5_aboutCylinder_51 : decode cX5_aboutCylinder 51 = .ok (.getfield 26, 3) := by decide +kernel
theorem dX5_aboutCylinder_54 : decode cX5_aboutCylinder 54 = .ok (.iload_n 1, 1) := by decide +kernel
theorem dX5_aboutCylinder_55 : decode cX5_aboutCylinder 55 = .ok (.invokevirtual 99, 3) := by decide +kernel
theorem dX5_aboutCylinder_58 : decode cX5_aboutCylinder 58 = .ok (.ireturn, 1) := by decide +kernel
theorem dX5_aboutCylinder_59 : decode cX5_aboutCylinder 59 = .ok (.aload_n 0, 1) := by decide +kernel
theorem dX5_aboutCylinder_60 : decode cX5_aboutCylinder 60 = .ok (.iload_n 1, 1) := by decide +kernel
theorem dX5_aboutCylinder_61 : decode cX5_aboutCylinder 61 = .ok (.invokevirtual 103, 3) := by decide +kernel
theorem dX5_aboutCylinder_64 : decode cX5_aboutCylinder 64 = .ok (.ireturn, 1) := by decide +kernel
theorem dX5_aboutCylinder_65 : decode cX5_aboutCylinder 65 = .ok (.aload_n 0, 1) := by decide +kernel
theorem dX5_aboutCylinder_66 : decode cX5_aboutCylinder 66 = .ok (.getfield 29, 3) := by decide +kernel
theorem dX5_aboutCylinder_69 : decode cX5_aboutCylinder 69 = .ok (.iload_n 1, 1) := by decide +kernel
theorem dX5_aboutCylinder_70 : decode cX5_aboutCylinder 70 = .ok (.invokevirtual 99, 3) := by decide +kernel
theorem dX5_aboutCylinder_73 : decode cX5_aboutCylinder 73 = .ok (.ireturn, 1) := by decide +kernel
theorem dX5_aboutControl_0 : decode cX5_aboutControl 0 = .ok (.iload_n 1, 1) := by decide +kernel
theorem dX5_aboutControl_1 : decode cX5_aboutControl 1 = .ok (.tableswitch 59 0 3 #[31, 44, 49, 54], 31) := by decide +kernel
theorem dX5_aboutControl_32 : decode cX5_aboutControl 32 = .ok (.aload_n 0, 1) := by decide +kernel
theorem dX5_aboutControl_33 : decode cX5_aboutControl 33 = .ok (.getfield 83, 3) := by decide +kernel
theorem dX5_aboutControl_36 : decode cX5_aboutControl 36 = .ok (.ifCond .eq 7, 3) := by decide +kernel
theorem dX5_aboutControl_39 : decode cX5_aboutControl 39 = .ok (.iconst 1, 1) := by decide +kernel
theorem dX5_aboutControl_40 : decode cX5_aboutControl 40 = .ok (.goto 4, 3) := by decide +kernel
theorem dX5_aboutControl_43 : decode cX5_aboutControl 43 = .ok (.iconst 0, 1) := by decide +kernel
theorem dX5_aboutControl_44 : decode cX5_aboutControl 44 = .ok (.ireturn, 1) := by decide +kernel
theorem dX5_aboutControl_45 : decode cX5_aboutControl 45 = .ok (.aload_n 0, 1) := by decide +kernel
theorem dX5_aboutControl_46 : decode cX5_aboutControl 46 = .ok (.getfield 77, 3) := by decide +kernel
theorem dX5_aboutControl_49 : decode cX5_aboutControl 49 = .ok (.ireturn, 1) := by decide +kernel
theorem dX5_aboutControl_50 : decode cX5_aboutControl 50 = .ok (.aload_n 0, 1) := by decide +kernel
theorem dX5_aboutControl_51 : decode cX5_aboutControl 51 = .ok (.getfield 80, 3) := by decide +kernel
theorem dX5_aboutControl_54 : decode cX5_aboutControl 54 = .ok (.ireturn, 1) := by decide +kernel
theorem dX5_aboutControl_55 : decode cX5_aboutControl 55 = .ok (.aload_n 0, 1) := by decide +kernel
theorem dX5_aboutControl_56 : decode cX5_aboutControl 56 = .ok (.getfield 71, 3) := by decide +kernel
theorem dX5_aboutControl_59 : decode cX5_aboutControl 59 = .ok (.ireturn, 1) := by decide +kernel
theorem dX5_aboutControl_60 : decode cX5_aboutControl 60 = .ok (.aload_n 0, 1) := by decide +kernel
theorem dX5_aboutControl_61 : decode cX5_aboutControl 61 = .ok (.getfield 74, 3) := by decide +kernel
theorem dX5_aboutControl_64 : decode cX5_aboutControl 64 = .ok (.ireturn, 1) := by decide +kernel
theorem dX5_thresholdOf_0 : decode cX5_thresholdOf 0 = .ok (.aload_n 0, 1) := by decide +kernel
theorem dX5_thresholdOf_1 : decode cX5_thresholdOf 1 = .ok (.getfield 23, 3) := by decide +kernel
theorem dX5_thresholdOf_4 : decode cX5_thresholdOf 4 = .ok (.iload_n 1, 1) := by decide +kernel
theorem dX5_thresholdOf_5 : decode cX5_thresholdOf 5 = .ok (.invokevirtual 99, 3) := by decide +kernel
theorem dX5_thresholdOf_8 : decode cX5_thresholdOf 8 = .ok (.aload_n 0, 1) := by decide +kernel
theorem dX5_thresholdOf_9 : decode cX5_thresholdOf 9 = .ok (.getfield 14, 3) := by decide +kernel
theorem dX5_thresholdOf_12 : decode cX5_thresholdOf 12 = .ok (.iconst 0, 1) := by decide +kernel
theorem dX5_thresholdOf_13 : decode cX5_thresholdOf 13 = .ok (.invokevirtual 99, 3) := by decide +kernel
theorem dX5_thresholdOf_16 : decode cX5_thresholdOf 16 = .ok (.imul, 1) := by decide +kernel
theorem dX5_thresholdOf_17 : decode cX5_thresholdOf 17 = .ok (.sipush 4096, 3) := by decide +kernel
theorem dX5_thresholdOf_20 : decode cX5_thresholdOf 20 = .ok (.idiv, 1) := by decide +kernel
theorem dX5_thresholdOf_21 : decode cX5_thresholdOf 21 = .ok (.bipush 50, 2) := by decide +kernel
theorem dX5_thresholdOf_23 : decode cX5_thresholdOf 23 = .ok (.iadd, 1) := by decide +kernel
theorem dX5_thresholdOf_24 : decode cX5_thresholdOf 24 = .ok (.ireturn, 1) := by decide +kernel
theorem dX5_retardOf_0 : decode cX5_retardOf 0 = .ok (.aload_n 0, 1) := by decide +kernel
theorem dX5_retardOf_1 : decode cX5_retardOf 1 = .ok (.getfield 83, 3) := by decide +kernel
theorem dX5_retardOf_4 : decode cX5_retardOf 4 = .ok (.ifCond .eq 15, 3) := by decide +kernel
theorem dX5_retardOf_7 : decode cX5_retardOf 7 = .ok (.aload_n 0, 1) := by decide +kernel
theorem dX5_retardOf_8 : decode cX5_retardOf 8 = .ok (.getfield 14, 3) := by decide +kernel
theorem dX5_retardOf_11 : decode cX5_retardOf 11 = .ok (.bipush 7, 2) := by decide +kernel
theorem dX5_retardOf_13 : decode cX5_retardOf 13 = .ok (.invokevirtual 99, 3) := by decide +kernel
theorem dX5_retardOf_16 : decode cX5_retardOf 16 = .ok (.goto 11, 3) := by decide +kernel
theorem dX5_retardOf_19 : decode cX5_retardOf 19 = .ok (.aload_n 0, 1) := by decide +kernel
theorem dX5_retardOf_20 : decode cX5_retardOf 20 = .ok (.getfield 20, 3) := by decide +kernel
theorem dX5_retardOf_23 : decode cX5_retardOf 23 = .ok (.iload_n 1, 1) := by decide +kernel
theorem dX5_retardOf_24 : decode cX5_retardOf 24 = .ok (.invokevirtual 99, 3) := by decide +kernel
theorem dX5_retardOf_27 : decode cX5_retardOf 27 = .ok (.istore_n 3, 1) := by decide +kernel
theorem dX5_retardOf_28 : decode cX5_retardOf 28 = .ok (.iload_n 3, 1) := by decide +kernel
theorem dX5_retardOf_29 : decode cX5_retardOf 29 = .ok (.aload_n 0, 1) := by decide +kernel
theorem dX5_retardOf_30 : decode cX5_retardOf 30 = .ok (.getfield 32, 3) := by decide +kernel
theorem dX5_retardOf_33 : decode cX5_retardOf 33 = .ok (.iload_n 2, 1) := by decide +kernel
theorem dX5_retardOf_34 : decode cX5_retardOf 34 = .ok (.invokevirtual 99, 3) := by decide +kernel
theorem dX5_retardOf_37 : decode cX5_retardOf 37 = .ok (.iadd, 1) := by decide +kernel
theorem dX5_retardOf_38 : decode cX5_retardOf 38 = .ok (.aload_n 0, 1) := by decide +kernel
theorem dX5_retardOf_39 : decode cX5_retardOf 39 = .ok (.getfield 14, 3) := by decide +kernel
theorem dX5_retardOf_42 : decode cX5_retardOf 42 = .ok (.iconst 3, 1) := by decide +kernel
theorem dX5_retardOf_43 : decode cX5_retardOf 43 = .ok (.invokevirtual 99, 3) := by decide +kernel
theorem dX5_retardOf_46 : decode cX5_retardOf 46 = .ok (.invokestatic 106, 3) := by decide +kernel
theorem dX5_retardOf_49 : decode cX5_retardOf 49 = .ok (.ireturn, 1) := by decide +kernel
theorem dX5_advanceOf_0 : decode cX5_advanceOf 0 = .ok (.iload_n 2, 1) := by decide +kernel
theorem dX5_advanceOf_1 : decode cX5_advanceOf 1 = .ok (.iload_n 3, 1) := by decide +kernel
theorem dX5_advanceOf_2 : decode cX5_advanceOf 2 = .ok (.invokestatic 112, 3) := by decide +kernel
theorem dX5_advanceOf_5 : decode cX5_advanceOf 5 = .ok (.aload_n 0, 1) := by decide +kernel
theorem dX5_advanceOf_6 : decode cX5_advanceOf 6 = .ok (.iload_n 1, 1) := by decide +kernel
theorem dX5_advanceOf_7 : decode cX5_advanceOf 7 = .ok (.iload_n 2, 1) := by decide +kernel
theorem dX5_advanceOf_8 : decode cX5_advanceOf 8 = .ok (.iload_n 3, 1) := by decide +kernel
theorem dX5_advanceOf_9 : decode cX5_advanceOf 9 = .ok (.invokestatic 117, 3) := by decide +kernel
theorem dX5_advanceOf_12 : decode cX5_advanceOf 12 = .ok (.invokevirtual 120, 3) := by decide +kernel
theorem dX5_advanceOf_15 : decode cX5_advanceOf 15 = .ok (.isub, 1) := by decide +kernel
theorem dX5_advanceOf_16 : decode cX5_advanceOf 16 = .ok (.ireturn, 1) := by decide +kernel
theorem dX5_greatestFast_0 : decode cX5_greatestFast 0 = .ok (.aload_n 0, 1) := by decide +kernel
theorem dX5_greatestFast_1 : decode cX5_greatestFast 1 = .ok (.getfield 20, 3) := by decide +kernel
theorem dX5_greatestFast_4 : decode cX5_greatestFast 4 = .ok (.iconst 0, 1) := by decide +kernel
theorem dX5_greatestFast_5 : decode cX5_greatestFast 5 = .ok (.invokevirtual 99, 3) := by decide +kernel
theorem dX5_greatestFast_8 : decode cX5_greatestFast 8 = .ok (.istore_n 1, 1) := by decide +kernel
theorem dX5_greatestFast_9 : decode cX5_greatestFast 9 = .ok (.iconst 1, 1) := by decide +kernel
theorem dX5_greatestFast_10 : decode cX5_greatestFast 10 = .ok (.istore_n 2, 1) := by decide +kernel
theorem dX5_greatestFast_11 : decode cX5_greatestFast 11 = .ok (.iload_n 2, 1) := by decide +kernel
theorem dX5_greatestFast_12 : decode cX5_greatestFast 12 = .ok (.aload_n 0, 1) := by decide +kernel
theorem dX5_greatestFast_13 : decode cX5_greatestFast 13 = .ok (.getfield 61, 3) := by decide +kernel
theorem dX5_greatestFast_16 : decode cX5_greatestFast 16 = .ok (.if_icmp .ge 22, 3) := by decide +kernel
theorem dX5_greatestFast_19 : decode cX5_greatestFast 19 = .ok (.iload_n 1, 1) := by decide +kernel
theorem dX5_greatestFast_20 : decode cX5_greatestFast 20 = .ok (.aload_n 0, 1) := by decide +kernel
theorem dX5_greatestFast_21 : decode cX5_greatestFast 21 = .ok (.getfield 20, 3) := by decide +kernel
theorem dX5_greatestFast_24 : decode cX5_greatestFast 24 = .ok (.iload_n 2, 1) := by decide +kernel
theorem dX5_greatestFast_25 : decode cX5_greatestFast 25 = .ok (.invokevirtual 99, 3) := by decide +kernel
theorem dX5_greatestFast_28 : decode cX5_greatestFast 28 = .ok (.invokestatic 123, 3) := by decide +kernel
theorem dX5_greatestFast_31 : decode cX5_greatestFast 31 = .ok (.istore_n 1, 1) := by decide +kernel
theorem dX5_greatestFast_32 : decode cX5_greatestFast 32 = .ok (.iinc 2 1, 3) := by decide +kernel
theorem dX5_greatestFast_35 : decode cX5_greatestFast 35 = .ok (.goto (-24), 3) := by decide +kernel
theorem dX5_greatestFast_38 : decode cX5_greatestFast 38 = .ok (.iload_n 1, 1) := by decide +kernel
theorem dX5_greatestFast_39 : decode cX5_greatestFast 39 = .ok (.ireturn, 1) := by decide +kernel
theorem dX5_smallestFast_0 : decode cX5_smallestFast 0 = .ok (.aload_n 0, 1) := by decide +kernel
theorem dX5_smallestFast_1 : decode cX5_smallestFast 1 = .ok (.getfield 20, 3) := by decide +kernel
theorem dX5_smallestFast_4 : decode cX5_smallestFast 4 = .ok (.iconst 0, 1) := by decide +kernel
theorem dX5_smallestFast_5 : decode cX5_smallestFast 5 = .ok (.invokevirtual 99, 3) := by decide +kernel
theorem dX5_smallestFast_8 : decode cX5_smallestFast 8 = .ok (.istore_n 1, 1) := by decide +kernel
theorem dX5_smallestFast_9 : decode cX5_smallestFast 9 = .ok (.iconst 1, 1) := by decide +kernel
theorem dX5_smallestFast_10 : decode cX5_smallestFast 10 = .ok (.istore_n 2, 1) := by decide +kernel
theorem dX5_smallestFast_11 : decode cX5_smallestFast 11 = .ok (.iload_n 2, 1) := by decide +kernel
theorem dX5_smallestFast_12 : decode cX5_smallestFast 12 = .ok (.aload_n 0, 1) := by decide +kernel
theorem dX5_smallestFast_13 : decode cX5_smallestFast 13 = .ok (.getfield 61, 3) := by decide +kernel
theorem dX5_smallestFast_16 : decode cX5_smallestFast 16 = .ok (.if_icmp .ge 22, 3) := by decide +kernel
theorem dX5_smallestFast_19 : decode cX5_smallestFast 19 = .ok (.iload_n 1, 1) := by decide +kernel
theorem dX5_smallestFast_20 : decode cX5_smallestFast 20 = .ok (.aload_n 0, 1) := by decide +kernel
theorem dX5_smallestFast_21 : decode cX5_smallestFast 21 = .ok (.getfield 20, 3) := by decide +kernel
theorem dX5_smallestFast_24 : decode cX5_smallestFast 24 = .ok (.iload_n 2, 1) := by decide +kernel
theorem dX5_smallestFast_25 : decode cX5_smallestFast 25 = .ok (.invokevirtual 99, 3) := by decide +kernel
theorem dX5_smallestFast_28 : decode cX5_smallestFast 28 = .ok (.invokestatic 106, 3) := by decide +kernel
theorem dX5_smallestFast_31 : decode cX5_smallestFast 31 = .ok (.istore_n 1, 1) := by decide +kernel
theorem dX5_smallestFast_32 : decode cX5_smallestFast 32 = .ok (.iinc 2 1, 3) := by decide +kernel
theorem dX5_smallestFast_35 : decode cX5_smallestFast 35 = .ok (.goto (-24), 3) := by decide +kernel
theorem dX5_smallestFast_38 : decode cX5_smallestFast 38 = .ok (.iload_n 1, 1) := by decide +kernel
theorem dX5_smallestFast_39 : decode cX5_smallestFast 39 = .ok (.ireturn, 1) := by decide +kernel
theorem dX5_allKnocks_0 : decode cX5_allKnocks 0 = .ok (.iconst 0, 1) := by decide +kernel
theorem dX5_allKnocks_1 : decode cX5_allKnocks 1 = .ok (.istore_n 1, 1) := by decide +kernel
theorem dX5_allKnocks_2 : decode cX5_allKnocks 2 = .ok (.iconst 0, 1) := by decide +kernel
theorem dX5_allKnocks_3 : decode cX5_allKnocks 3 = .ok (.istore_n 2, 1) := by decide +kernel
theorem dX5_allKnocks_4 : decode cX5_allKnocks 4 = .ok (.iload_n 2, 1) := by decide +kernel
theorem dX5_allKnocks_5 : decode cX5_allKnocks 5 = .ok (.aload_n 0, 1) := by decide +kernel
theorem dX5_allKnocks_6 : decode cX5_allKnocks 6 = .ok (.getfield 61, 3) := by decide +kernel
theorem dX5_allKnocks_9 : decode cX5_allKnocks 9 = .ok (.if_icmp .ge 20, 3) := by decide +kernel
theorem dX5_allKnocks_12 : decode cX5_allKnocks 12 = .ok (.iload_n 1, 1) := by decide +kernel
theorem dX5_allKnocks_13 : decode cX5_allKnocks 13 = .ok (.aload_n 0, 1) := by decide +kernel
theorem dX5_allKnocks_14 : decode cX5_allKnocks 14 = .ok (.getfield 29, 3) := by decide +kernel
theorem dX5_allKnocks_17 : decode cX5_allKnocks 17 = .ok (.iload_n 2, 1) := by decide +kernel
theorem dX5_allKnocks_18 : decode cX5_allKnocks 18 = .ok (.invokevirtual 99, 3) := by decide +kernel
theorem dX5_allKnocks_21 : decode cX5_allKnocks 21 = .ok (.iadd, 1) := by decide +kernel
theorem dX5_allKnocks_22 : decode cX5_allKnocks 22 = .ok (.istore_n 1, 1) := by decide +kernel
theorem dX5_allKnocks_23 : decode cX5_allKnocks 23 = .ok (.iinc 2 1, 3) := by decide +kernel
theorem dX5_allKnocks_26 : decode cX5_allKnocks 26 = .ok (.goto (-22), 3) := by decide +kernel
theorem dX5_allKnocks_29 : decode cX5_allKnocks 29 = .ok (.iload_n 1, 1) := by decide +kernel
theorem dX5_allKnocks_30 : decode cX5_allKnocks 30 = .ok (.ireturn, 1) := by decide +kernel
theorem dX5_treatModelled_0 : decode cX5_treatModelled 0 = .ok (.aload_n 0, 1) := by decide +kernel
theorem dX5_treatModelled_1 : decode cX5_treatModelled 1 = .ok (.ldc2_w 126, 3) := by decide +kernel
theorem dX5_treatModelled_4 : decode cX5_treatModelled 4 = .ok (.aload_n 0, 1) := by decide +kernel
theorem dX5_treatModelled_5 : decode cX5_treatModelled 5 = .ok (.getfield 50, 3) := by decide +kernel
theorem dX5_treatModelled_8 : decode cX5_treatModelled 8 = .ok (.i2l, 1) := by decide +kernel
theorem dX5_treatModelled_9 : decode cX5_treatModelled 9 = .ok (.lmul, 1) := by decide +kernel
theorem dX5_treatModelled_10 : decode cX5_treatModelled 10 = .ok (.ldc2_w 128, 3) := by decide +kernel
theorem dX5_treatModelled_13 : decode cX5_treatModelled 13 = .ok (.ladd, 1) := by decide +kernel
theorem dX5_treatModelled_14 : decode cX5_treatModelled 14 = .ok (.ldc2_w 130, 3) := by decide +kernel
theorem dX5_treatModelled_17 : decode cX5_treatModelled 17 = .ok (.lrem, 1) := by decide +kernel
theorem dX5_treatModelled_18 : decode cX5_treatModelled 18 = .ok (.l2i, 1) := by decide +kernel
theorem dX5_treatModelled_19 : decode cX5_treatModelled 19 = .ok (.putfield 50, 3) := by decide +kernel
theorem dX5_treatModelled_22 : decode cX5_treatModelled 22 = .ok (.aload_n 0, 1) := by decide +kernel
theorem dX5_treatModelled_23 : decode cX5_treatModelled 23 = .ok (.getfield 54, 3) := by decide +kernel
theorem dX5_treatModelled_26 : decode cX5_treatModelled 26 = .ok (.ifCond .eq 11, 3) := by decide +kernel
theorem dX5_treatModelled_29 : decode cX5_treatModelled 29 = .ok (.aload_n 0, 1) := by decide +kernel
theorem dX5_treatModelled_30 : decode cX5_treatModelled 30 = .ok (.iload_n 1, 1) := by decide +kernel
theorem dX5_treatModelled_31 : decode cX5_treatModelled 31 = .ok (.iload_n 2, 1) := by decide +kernel
theorem dX5_treatModelled_32 : decode cX5_treatModelled 32 = .ok (.iconst 0, 1) := by decide +kernel
theorem dX5_treatModelled_33 : decode cX5_treatModelled 33 = .ok (.invokevirtual 132, 3) := by decide +kernel
theorem dX5_treatModelled_36 : decode cX5_treatModelled 36 = .ok (.ireturn, 1) := by decide +kernel
theorem dX5_treatModelled_37 : decode cX5_treatModelled 37 = .ok (.aload_n 0, 1) := by decide +kernel
theorem dX5_treatModelled_38 : decode cX5_treatModelled 38 = .ok (.getfield 50, 3) := by decide +kernel
theorem dX5_treatModelled_41 : decode cX5_treatModelled 41 = .ok (.ldc 136, 2) := by decide +kernel
theorem dX5_treatModelled_43 : decode cX5_treatModelled 43 = .ok (.idiv, 1) := by decide +kernel
theorem dX5_treatModelled_44 : decode cX5_treatModelled 44 = .ok (.bipush 40, 2) := by decide +kernel
theorem dX5_treatModelled_46 : decode cX5_treatModelled 46 = .ok (.irem, 1) := by decide +kernel
theorem dX5_treatModelled_47 : decode cX5_treatModelled 47 = .ok (.istore 4, 2) := by decide +kernel
theorem dX5_treatModelled_49 : decode cX5_treatModelled 49 = .ok (.aload_n 0, 1) := by decide +kernel
theorem dX5_treatModelled_50 : decode cX5_treatModelled 50 = .ok (.aload_n 0, 1) := by decide +kernel
theorem dX5_treatModelled_51 : decode cX5_treatModelled 51 = .ok (.getfield 89, 3) := by decide +kernel
theorem dX5_treatModelled_54 : decode cX5_treatModelled 54 = .ok (.iload_n 1, 1) := by decide +kernel
theorem dX5_treatModelled_55 : decode cX5_treatModelled 55 = .ok (.iload_n 2, 1) := by decide +kernel
theorem dX5_treatModelled_56 : decode cX5_treatModelled 56 = .ok (.invokevirtual 137, 3) := by decide +kernel
theorem dX5_treatModelled_59 : decode cX5_treatModelled 59 = .ok (.iload_n 1, 1) := by decide +kernel
theorem dX5_treatModelled_60 : decode cX5_treatModelled 60 = .ok (.iload_n 2, 1) := by decide +kernel
theorem dX5_treatModelled_61 : decode cX5_treatModelled 61 = .ok (.iload_n 3, 1) := by decide +kernel
theorem dX5_treatModelled_62 : decode cX5_treatModelled 62 = .ok (.invokestatic 140, 3) := by decide +kernel
theorem dX5_treatModelled_65 : decode cX5_treatModelled 65 = .ok (.isub, 1) := by decide +kernel
theorem dX5_treatModelled_66 : decode cX5_treatModelled 66 = .ok (.istore 5, 2) := by decide +kernel
theorem dX5_treatModelled_68 : decode cX5_treatModelled 68 = .ok (.iload_n 1, 1) := by decide +kernel
theorem dX5_treatModelled_69 : decode cX5_treatModelled 69 = .ok (.bipush 20, 2) := by decide +kernel
theorem dX5_treatModelled_71 : decode cX5_treatModelled 71 = .ok (.idiv, 1) := by decide +kernel
theorem dX5_treatModelled_72 : decode cX5_treatModelled 72 = .ok (.iload_n 2, 1) := by decide +kernel
theorem dX5_treatModelled_73 : decode cX5_treatModelled 73 = .ok (.iadd, 1) := by decide +kernel
theorem dX5_treatModelled_74 : decode cX5_treatModelled 74 = .ok (.iload 4, 2) := by decide +kernel
theorem dX5_treatModelled_76 : decode cX5_treatModelled 76 = .ok (.iadd, 1) := by decide +kernel
theorem dX5_treatModelled_77 : decode cX5_treatModelled 77 = .ok (.bipush 12, 2) := by decide +kernel
theorem dX5_treatModelled_79 : decode cX5_treatModelled 79 = .ok (.iload 5, 2) := by decide +kernel
theorem dX5_treatModelled_81 : decode cX5_treatModelled 81 = .ok (.iconst 0, 1) := by decide +kernel
theorem dX5_treatModelled_82 : decode cX5_treatModelled 82 = .ok (.invokestatic 123, 3) := by decide +kernel
theorem dX5_treatModelled_85 : decode cX5_treatModelled 85 = .ok (.imul, 1) := by decide +kernel
theorem dX5_treatModelled_86 : decode cX5_treatModelled 86 = .ok (.iadd, 1) := by decide +kernel
theorem dX5_treatModelled_87 : decode cX5_treatModelled 87 = .ok (.istore 6, 2) := by decide +kernel
theorem dX5_treatModelled_89 : decode cX5_treatModelled 89 = .ok (.aload_n 0, 1) := by decide +kernel
theorem dX5_treatModelled_90 : decode cX5_treatModelled 90 = .ok (.iload_n 1, 1) := by decide +kernel
theorem dX5_treatModelled_91 : decode cX5_treatModelled 91 = .ok (.iload_n 2, 1) := by decide +kernel
theorem dX5_treatModelled_92 : decode cX5_treatModelled 92 = .ok (.iload 6, 2) := by decide +kernel
theorem dX5_treatModelled_94 : decode cX5_treatModelled 94 = .ok (.sipush 20000, 3) := by decide +kernel
theorem dX5_treatModelled_97 : decode cX5_treatModelled 97 = .ok (.invokestatic 106, 3) := by decide +kernel
theorem dX5_treatModelled_100 : decode cX5_treatModelled 100 = .ok (.invokevirtual 132, 3) := by decide +kernel
theorem dX5_treatModelled_103 : decode cX5_treatModelled 103 = .ok (.ireturn, 1) := by decide +kernel
theorem dX5_treat_0 : decode cX5_treat 0 = .ok (.iload_n 1, 1) := by decide +kernel
theorem dX5_treat_1 : decode cX5_treat 1 = .ok (.iload_n 2, 1) := by decide +kernel
theorem dX5_treat_2 : decode cX5_treat 2 = .ok (.invokestatic 117, 3) := by decide +kernel
theorem dX5_treat_5 : decode cX5_treat 5 = .ok (.istore 4, 2) := by decide +kernel
theorem dX5_treat_7 : decode cX5_treat 7 = .ok (.aload_n 0, 1) := by decide +kernel
theorem dX5_treat_8 : decode cX5_treat 8 = .ok (.iload_n 3, 1) := by decide +kernel
theorem dX5_treat_9 : decode cX5_treat 9 = .ok (.invokevirtual 143, 3) := by decide +kernel
theorem dX5_treat_12 : decode cX5_treat 12 = .ok (.aload_n 0, 1) := by decide +kernel
theorem dX5_treat_13 : decode cX5_treat 13 = .ok (.iload 4, 2) := by decide +kernel
theorem dX5_treat_15 : decode cX5_treat 15 = .ok (.aload_n 0, 1) := by decide +kernel
theorem dX5_treat_16 : decode cX5_treat 16 = .ok (.getfield 74, 3) := by decide +kernel
theorem dX5_treat_19 : decode cX5_treat 19 = .ok (.if_icmp .ne 12, 3) := by decide +kernel
theorem dX5_treat_22 : decode cX5_treat 22 = .ok (.aload_n 0, 1) := by decide +kernel
theorem dX5_treat_23 : decode cX5_treat 23 = .ok (.getfield 71, 3) := by decide +kernel
theorem dX5_treat_26 : decode cX5_treat 26 = .ok (.iconst 1, 1) := by decide +kernel
theorem dX5_treat_27 : decode cX5_treat 27 = .ok (.iadd, 1) := by decide +kernel
theorem dX5_treat_28 : decode cX5_treat 28 = .ok (.goto 4, 3) := by decide +kernel
theorem dX5_treat_31 : decode cX5_treat 31 = .ok (.iconst 0, 1) := by decide +kernel
theorem dX5_treat_32 : decode cX5_treat 32 = .ok (.putfield 71, 3) := by decide +kernel
theorem dX5_treat_35 : decode cX5_treat 35 = .ok (.aload_n 0, 1) := by decide +kernel
theorem dX5_treat_36 : decode cX5_treat 36 = .ok (.iload 4, 2) := by decide +kernel
theorem dX5_treat_38 : decode cX5_treat 38 = .ok (.putfield 74, 3) := by decide +kernel
theorem dX5_treat_41 : decode cX5_treat 41 = .ok (.iconst 2, 1) := by decide +kernel
theorem dX5_treat_42 : decode cX5_treat 42 = .ok (.istore 5, 2) := by decide +kernel
theorem dX5_treat_44 : decode cX5_treat 44 = .ok (.aload_n 0, 1) := by decide +kernel
theorem dX5_treat_45 : decode cX5_treat 45 = .ok (.getfield 83, 3) := by decide +kernel
theorem dX5_treat_48 : decode cX5_treat 48 = .ok (.ifCond .ne 26, 3) := by decide +kernel
theorem dX5_treat_51 : decode cX5_treat 51 = .ok (.aload_n 0, 1) := by decide +kernel
theorem dX5_treat_52 : decode cX5_treat 52 = .ok (.aload_n 0, 1) := by decide +kernel
theorem dX5_treat_53 : decode cX5_treat 53 = .ok (.getfield 89, 3) := by decide +kernel
theorem dX5_treat_56 : decode cX5_treat 56 = .ok (.iload 4, 2) := by decide +kernel
theorem dX5_treat_58 : decode cX5_treat 58 = .ok (.iload_n 3, 1) := by decide +kernel
theorem dX5_treat_59 : decode cX5_treat 59 = .ok (.invokevirtual 146, 3) := by decide +kernel
theorem dX5_treat_62 : decode cX5_treat 62 = .ok (.istore 5, 2) := by decide +kernel
theorem dX5_treat_64 : decode cX5_treat 64 = .ok (.aload_n 0, 1) := by decide +kernel
theorem dX5_treat_65 : decode cX5_treat 65 = .ok (.invokevirtual 149, 3) := by decide +kernel
theorem dX5_treat_68 : decode cX5_treat 68 = .ok (.aload_n 0, 1) := by decide +kernel
theorem dX5_treat_69 : decode cX5_treat 69 = .ok (.iload 4, 2) := by decide +kernel
theorem dX5_treat_71 : decode cX5_treat 71 = .ok (.invokevirtual 152, 3) := by decide +kernel
theorem dX5_treat_74 : decode cX5_treat 74 = .ok (.aload_n 0, 1) := by decide +kernel
theorem dX5_treat_75 : decode cX5_treat 75 = .ok (.dup, 1) := by decide +kernel
theorem dX5_treat_76 : decode cX5_treat 76 = .ok (.getfield 86, 3) := by decide +kernel
theorem dX5_treat_79 : decode cX5_treat 79 = .ok (.iconst 1, 1) := by decide +kernel
theorem dX5_treat_80 : decode cX5_treat 80 = .ok (.iadd, 1) := by decide +kernel
theorem dX5_treat_81 : decode cX5_treat 81 = .ok (.putfield 86, 3) := by decide +kernel
theorem dX5_treat_84 : decode cX5_treat 84 = .ok (.aload_n 0, 1) := by decide +kernel
theorem dX5_treat_85 : decode cX5_treat 85 = .ok (.aload_n 0, 1) := by decide +kernel
theorem dX5_treat_86 : decode cX5_treat 86 = .ok (.getfield 89, 3) := by decide +kernel
theorem dX5_treat_89 : decode cX5_treat 89 = .ok (.iconst 1, 1) := by decide +kernel
theorem dX5_treat_90 : decode cX5_treat 90 = .ok (.iadd, 1) := by decide +kernel
theorem dX5_treat_91 : decode cX5_treat 91 = .ok (.aload_n 0, 1) := by decide +kernel
theorem dX5_treat_92 : decode cX5_treat 92 = .ok (.getfield 61, 3) := by decide +kernel
theorem dX5_treat_95 : decode cX5_treat 95 = .ok (.if_icmp .ge 12, 3) := by decide +kernel
theorem dX5_treat_98 : decode cX5_treat 98 = .ok (.aload_n 0, 1) := by decide +kernel
theorem dX5_treat_99 : decode cX5_treat 99 = .ok (.getfield 89, 3) := by decide +kernel
theorem dX5_treat_102 : decode cX5_treat 102 = .ok (.iconst 1, 1) := by decide +kernel
theorem dX5_treat_103 : decode cX5_treat 103 = .ok (.iadd, 1) := by decide +kernel
theorem dX5_treat_104 : decode cX5_treat 104 = .ok (.goto 4, 3) := by decide +kernel
theorem dX5_treat_107 : decode cX5_treat 107 = .ok (.iconst 0, 1) := by decide +kernel
theorem dX5_treat_108 : decode cX5_treat 108 = .ok (.putfield 89, 3) := by decide +kernel
theorem dX5_treat_111 : decode cX5_treat 111 = .ok (.iload 5, 2) := by decide +kernel
theorem dX5_treat_113 : decode cX5_treat 113 = .ok (.ireturn, 1) := by decide +kernel
theorem dX5_watchSensor_0 : decode cX5_watchSensor 0 = .ok (.iload_n 1, 1) := by decide +kernel
theorem dX5_watchSensor_1 : decode cX5_watchSensor 1 = .ok (.aload_n 0, 1) := by decide +kernel
theorem dX5_watchSensor_2 : decode cX5_watchSensor 2 = .ok (.getfield 14, 3) := by decide +kernel
theorem dX5_watchSensor_5 : decode cX5_watchSensor 5 = .ok (.bipush 6, 2) := by decide +kernel
theorem dX5_watchSensor_7 : decode cX5_watchSensor 7 = .ok (.invokevirtual 99, 3) := by decide +kernel
theorem dX5_watchSensor_10 : decode cX5_watchSensor 10 = .ok (.if_icmp .ge 7, 3) := by decide +kernel
theorem dX5_watchSensor_13 : decode cX5_watchSensor 13 = .ok (.iconst 1, 1) := by decide +kernel
theorem dX5_watchSensor_14 : decode cX5_watchSensor 14 = .ok (.goto 4, 3) := by decide +kernel
theorem dX5_watchSensor_17 : decode cX5_watchSensor 17 = .ok (.iconst 0, 1) := by decide +kernel
theorem dX5_watchSensor_18 : decode cX5_watchSensor 18 = .ok (.istore_n 2, 1) := by decide +kernel
theorem dX5_watchSensor_19 : decode cX5_watchSensor 19 = .ok (.aload_n 0, 1) := by decide +kernel
theorem dX5_watchSensor_20 : decode cX5_watchSensor 20 = .ok (.iload_n 2, 1) := by decide +kernel
theorem dX5_watchSensor_21 : decode cX5_watchSensor 21 = .ok (.ifCond .eq 12, 3) := by decide +kernel
theorem dX5_watchSensor_24 : decode cX5_watchSensor 24 = .ok (.aload_n 0, 1) := by decide +kernel
theorem dX5_watchSensor_25 : decode cX5_watchSensor 25 = .ok (.getfield 77, 3) := by decide +kernel
theorem dX5_watchSensor_28 : decode cX5_watchSensor 28 = .ok (.iconst 1, 1) := by decide +kernel
theorem dX5_watchSensor_29 : decode cX5_watchSensor 29 = .ok (.iadd, 1) := by decide +kernel
theorem dX5_watchSensor_30 : decode cX5_watchSensor 30 = .ok (.goto 4, 3) := by decide +kernel
theorem dX5_watchSensor_33 : decode cX5_watchSensor 33 = .ok (.iconst 0, 1) := by decide +kernel
theorem dX5_watchSensor_34 : decode cX5_watchSensor 34 = .ok (.putfield 77, 3) := by decide +kernel
theorem dX5_watchSensor_37 : decode cX5_watchSensor 37 = .ok (.aload_n 0, 1) := by decide +kernel
theorem dX5_watchSensor_38 : decode cX5_watchSensor 38 = .ok (.iload_n 2, 1) := by decide +kernel
theorem dX5_watchSensor_39 : decode cX5_watchSensor 39 = .ok (.ifCond .eq 7, 3) := by decide +kernel
theorem dX5_watchSensor_42 : decode cX5_watchSensor 42 = .ok (.iconst 0, 1) := by decide +kernel
theorem dX5_watchSensor_43 : decode cX5_watchSensor 43 = .ok (.goto 9, 3) := by decide +kernel
theorem dX5_watchSensor_46 : decode cX5_watchSensor 46 = .ok (.aload_n 0, 1) := by decide +kernel
theorem dX5_watchSensor_47 : decode cX5_watchSensor 47 = .ok (.getfield 80, 3) := by decide +kernel
theorem dX5_watchSensor_50 : decode cX5_watchSensor 50 = .ok (.iconst 1, 1) := by decide +kernel
theorem dX5_watchSensor_51 : decode cX5_watchSensor 51 = .ok (.iadd, 1) := by decide +kernel
theorem dX5_watchSensor_52 : decode cX5_watchSensor 52 = .ok (.putfield 80, 3) := by decide +kernel
theorem dX5_watchSensor_55 : decode cX5_watchSensor 55 = .ok (.aload_n 0, 1) := by decide +kernel
theorem dX5_watchSensor_56 : decode cX5_watchSensor 56 = .ok (.getfield 83, 3) := by decide +kernel
theorem dX5_watchSensor_59 : decode cX5_watchSensor 59 = .ok (.ifCond .ne 33, 3) := by decide +kernel
theorem dX5_watchSensor_62 : decode cX5_watchSensor 62 = .ok (.aload_n 0, 1) := by decide +kernel
theorem dX5_watchSensor_63 : decode cX5_watchSensor 63 = .ok (.getfield 77, 3) := by decide +kernel
theorem dX5_watchSensor_66 : decode cX5_watchSensor 66 = .ok (.bipush 20, 2) := by decide +kernel
theorem dX5_watchSensor_68 : decode cX5_watchSensor 68 = .ok (.if_icmp .lt 24, 3) := by decide +kernel
theorem dX5_watchSensor_71 : decode cX5_watchSensor 71 = .ok (.aload_n 0, 1) := by decide +kernel
theorem dX5_watchSensor_72 : decode cX5_watchSensor 72 = .ok (.iconst 1, 1) := by decide +kernel
theorem dX5_watchSensor_73 : decode cX5_watchSensor 73 = .ok (.putfield 83, 3) := by decide +kernel
theorem dX5_watchSensor_76 : decode cX5_watchSensor 76 = .ok (.aload_n 0, 1) := by decide +kernel
theorem dX5_watchSensor_77 : decode cX5_watchSensor 77 = .ok (.getfield 38, 3) := by decide +kernel
theorem dX5_watchSensor_80 : decode cX5_watchSensor 80 = .ok (.iconst 1, 1) := by decide +kernel
theorem dX5_watchSensor_81 : decode cX5_watchSensor 81 = .ok (.iconst 0, 1) := by decide +kernel
theorem dX5_watchSensor_82 : decode cX5_watchSensor 82 = .ok (.aload_n 0, 1) := by decide +kernel
theorem dX5_watchSensor_83 : decode cX5_watchSensor 83 = .ok (.getfield 86, 3) := by decide +kernel
theorem dX5_watchSensor_86 : decode cX5_watchSensor 86 = .ok (.invokevirtual 155, 3) := by decide +kernel
theorem dX5_watchSensor_89 : decode cX5_watchSensor 89 = .ok (.goto 37, 3) := by decide +kernel
theorem dX5_watchSensor_92 : decode cX5_watchSensor 92 = .ok (.aload_n 0, 1) := by decide +kernel
theorem dX5_watchSensor_93 : decode cX5_watchSensor 93 = .ok (.getfield 83, 3) := by decide +kernel
theorem dX5_watchSensor_96 : decode cX5_watchSensor 96 = .ok (.ifCond .eq 30, 3) := by decide +kernel
theorem dX5_watchSensor_99 : decode cX5_watchSensor 99 = .ok (.aload_n 0, 1) := by decide +kernel
theorem dX5_watchSensor_100 : decode cX5_watchSensor 100 = .ok (.getfield 80, 3) := by decide +kernel
theorem dX5_watchSensor_103 : decode cX5_watchSensor 103 = .ok (.bipush 50, 2) := by decide +kernel
theorem dX5_watchSensor_105 : decode cX5_watchSensor 105 = .ok (.if_icmp .lt 21, 3) := by decide +kernel
theorem dX5_watchSensor_108 : decode cX5_watchSensor 108 = .ok (.aload_n 0, 1) := by decide +kernel
theorem dX5_watchSensor_109 : decode cX5_watchSensor 109 = .ok (.iconst 0, 1) := by decide +kernel
theorem dX5_watchSensor_110 : decode cX5_watchSensor 110 = .ok (.putfield 83, 3) := by decide +kernel
theorem dX5_watchSensor_113 : decode cX5_watchSensor 113 = .ok (.aload_n 0, 1) := by decide +kernel
theorem dX5_watchSensor_114 : decode cX5_watchSensor 114 = .ok (.getfield 38, 3) := by decide +kernel
theorem dX5_watchSensor_117 : decode cX5_watchSensor 117 = .ok (.iconst 2, 1) := by decide +kernel
theorem dX5_watchSensor_118 : decode cX5_watchSensor 118 = .ok (.iconst 0, 1) := by decide +kernel
theorem dX5_watchSensor_119 : decode cX5_watchSensor 119 = .ok (.aload_n 0, 1) := by decide +kernel
theorem dX5_watchSensor_120 : decode cX5_watchSensor 120 = .ok (.getfield 86, 3) := by decide +kernel
theorem dX5_watchSensor_123 : decode cX5_watchSensor 123 = .ok (.invokevirtual 155, 3) := by decide +kernel
theorem dX5_watchSensor_126 : decode cX5_watchSensor 126 = .ok (.return_, 1) := by decide +kernel
theorem dX5_listen_0 : decode cX5_listen 0 = .ok (.aload_n 0, 1) := by decide +kernel
theorem dX5_listen_1 : decode cX5_listen 1 = .ok (.iload_n 1, 1) := by decide +kernel
theorem dX5_listen_2 : decode cX5_listen 2 = .ok (.invokevirtual 103, 3) := by decide +kernel
theorem dX5_listen_5 : decode cX5_listen 5 = .ok (.istore 4, 2) := by decide +kernel
theorem dX5_listen_7 : decode cX5_listen 7 = .ok (.iload_n 3, 1) := by decide +kernel
theorem dX5_listen_8 : decode cX5_listen 8 = .ok (.iload 4, 2) := by decide +kernel
theorem dX5_listen_10 : decode cX5_listen 10 = .ok (.if_icmp .le 45, 3) := by decide +kernel
theorem dX5_listen_13 : decode cX5_listen 13 = .ok (.aload_n 0, 1) := by decide +kernel
theorem dX5_listen_14 : decode cX5_listen 14 = .ok (.iload_n 1, 1) := by decide +kernel
theorem dX5_listen_15 : decode cX5_listen 15 = .ok (.iload_n 2, 1) := by decide +kernel
theorem dX5_listen_16 : decode cX5_listen 16 = .ok (.iload_n 3, 1) := by decide +kernel
theorem dX5_listen_17 : decode cX5_listen 17 = .ok (.iload 4, 2) := by decide +kernel
theorem dX5_listen_19 : decode cX5_listen 19 = .ok (.invokevirtual 159, 3) := by decide +kernel
theorem dX5_listen_22 : decode cX5_listen 22 = .ok (.aload_n 0, 1) := by decide +kernel
theorem dX5_listen_23 : decode cX5_listen 23 = .ok (.getfield 26, 3) := by decide +kernel
theorem dX5_listen_26 : decode cX5_listen 26 = .ok (.iload_n 1, 1) := by decide +kernel
theorem dX5_listen_27 : decode cX5_listen 27 = .ok (.iconst 0, 1) := by decide +kernel
theorem dX5_listen_28 : decode cX5_listen 28 = .ok (.invokevirtual 46, 3) := by decide +kernel
theorem dX5_listen_31 : decode cX5_listen 31 = .ok (.aload_n 0, 1) := by decide +kernel
theorem dX5_listen_32 : decode cX5_listen 32 = .ok (.getfield 29, 3) := by decide +kernel
theorem dX5_listen_35 : decode cX5_listen 35 = .ok (.iload_n 1, 1) := by decide +kernel
theorem dX5_listen_36 : decode cX5_listen 36 = .ok (.iconst 1, 1) := by decide +kernel
theorem dX5_listen_37 : decode cX5_listen 37 = .ok (.invokevirtual 163, 3) := by decide +kernel
theorem dX5_listen_40 : decode cX5_listen 40 = .ok (.aload_n 0, 1) := by decide +kernel
theorem dX5_listen_41 : decode cX5_listen 41 = .ok (.getfield 38, 3) := by decide +kernel
theorem dX5_listen_44 : decode cX5_listen 44 = .ok (.iconst 0, 1) := by decide +kernel
theorem dX5_listen_45 : decode cX5_listen 45 = .ok (.iload_n 1, 1) := by decide +kernel
theorem dX5_listen_46 : decode cX5_listen 46 = .ok (.aload_n 0, 1) := by decide +kernel
theorem dX5_listen_47 : decode cX5_listen 47 = .ok (.getfield 86, 3) := by decide +kernel
theorem dX5_listen_50 : decode cX5_listen 50 = .ok (.invokevirtual 155, 3) := by decide +kernel
theorem dX5_listen_53 : decode cX5_listen 53 = .ok (.iconst 1, 1) := by decide +kernel
theorem dX5_listen_54 : decode cX5_listen 54 = .ok (.ireturn, 1) := by decide +kernel
theorem dX5_listen_55 : decode cX5_listen 55 = .ok (.aload_n 0, 1) := by decide +kernel
theorem dX5_listen_56 : decode cX5_listen 56 = .ok (.getfield 23, 3) := by decide +kernel
theorem dX5_listen_59 : decode cX5_listen 59 = .ok (.iload_n 1, 1) := by decide +kernel
theorem dX5_listen_60 : decode cX5_listen 60 = .ok (.sipush 256, 3) := by decide +kernel
theorem dX5_listen_63 : decode cX5_listen 63 = .ok (.iload_n 3, 1) := by decide +kernel
theorem dX5_listen_64 : decode cX5_listen 64 = .ok (.imul, 1) := by decide +kernel
theorem dX5_listen_65 : decode cX5_listen 65 = .ok (.aload_n 0, 1) := by decide +kernel
theorem dX5_listen_66 : decode cX5_listen 66 = .ok (.getfield 23, 3) := by decide +kernel
theorem dX5_listen_69 : decode cX5_listen 69 = .ok (.iload_n 1, 1) := by decide +kernel
theorem dX5_listen_70 : decode cX5_listen 70 = .ok (.invokevirtual 99, 3) := by decide +kernel
theorem dX5_listen_73 : decode cX5_listen 73 = .ok (.isub, 1) := by decide +kernel
theorem dX5_listen_74 : decode cX5_listen 74 = .ok (.bipush 16, 2) := by decide +kernel
theorem dX5_listen_76 : decode cX5_listen 76 = .ok (.invokestatic 166, 3) := by decide +kernel
theorem dX5_listen_79 : decode cX5_listen 79 = .ok (.invokevirtual 163, 3) := by decide +kernel
theorem dX5_listen_82 : decode cX5_listen 82 = .ok (.aload_n 0, 1) := by decide +kernel
theorem dX5_listen_83 : decode cX5_listen 83 = .ok (.getfield 26, 3) := by decide +kernel
theorem dX5_listen_86 : decode cX5_listen 86 = .ok (.iload_n 1, 1) := by decide +kernel
theorem dX5_listen_87 : decode cX5_listen 87 = .ok (.iconst 1, 1) := by decide +kernel
theorem dX5_listen_88 : decode cX5_listen 88 = .ok (.invokevirtual 163, 3) := by decide +kernel
theorem dX5_listen_91 : decode cX5_listen 91 = .ok (.aload_n 0, 1) := by decide +kernel
theorem dX5_listen_92 : decode cX5_listen 92 = .ok (.getfield 26, 3) := by decide +kernel
theorem dX5_listen_95 : decode cX5_listen 95 = .ok (.iload_n 1, 1) := by decide +kernel
theorem dX5_listen_96 : decode cX5_listen 96 = .ok (.invokevirtual 99, 3) := by decide +kernel
theorem dX5_listen_99 : decode cX5_listen 99 = .ok (.aload_n 0, 1) := by decide +kernel
theorem dX5_listen_100 : decode cX5_listen 100 = .ok (.getfield 14, 3) := by decide +kernel
theorem dX5_listen_103 : decode cX5_listen 103 = .ok (.iconst 2, 1) := by decide +kernel
theorem dX5_listen_104 : decode cX5_listen 104 = .ok (.invokevirtual 99, 3) := by decide +kernel
theorem dX5_listen_107 : decode cX5_listen 107 = .ok (.if_icmp .lt 17, 3) := by decide +kernel
theorem dX5_listen_110 : decode cX5_listen 110 = .ok (.aload_n 0, 1) := by decide +kernel
theorem dX5_listen_111 : decode cX5_listen 111 = .ok (.getfield 26, 3) := by decide +kernel
theorem dX5_listen_114 : decode cX5_listen 114 = .ok (.iload_n 1, 1) := by decide +kernel
theorem dX5_listen_115 : decode cX5_listen 115 = .ok (.iconst 0, 1) := by decide +kernel
theorem dX5_listen_116 : decode cX5_listen 116 = .ok (.invokevirtual 46, 3) := by decide +kernel
theorem dX5_listen_119 : decode cX5_listen 119 = .ok (.aload_n 0, 1) := by decide +kernel
theorem dX5_listen_120 : decode cX5_listen 120 = .ok (.iload_n 1, 1) := by decide +kernel
theorem dX5_listen_121 : decode cX5_listen 121 = .ok (.invokevirtual 169, 3) := by decide +kernel
theorem dX5_listen_124 : decode cX5_listen 124 = .ok (.iconst 0, 1) := by decide +kernel
theorem dX5_listen_125 : decode cX5_listen 125 = .ok (.ireturn, 1) := by decide +kernel
theorem dX5_retardFast_0 : decode cX5_retardFast 0 = .ok (.aload_n 0, 1) := by decide +kernel
theorem dX5_retardFast_1 : decode cX5_retardFast 1 = .ok (.getfield 14, 3) := by decide +kernel
theorem dX5_retardFast_4 : decode cX5_retardFast 4 = .ok (.iconst 1, 1) := by decide +kernel
theorem dX5_retardFast_5 : decode cX5_retardFast 5 = .ok (.invokevirtual 99, 3) := by decide +kernel
theorem dX5_retardFast_8 : decode cX5_retardFast 8 = .ok (.istore 5, 2) := by decide +kernel
theorem dX5_retardFast_10 : decode cX5_retardFast 10 = .ok (.iload 4, 2) := by decide +kernel
theorem dX5_retardFast_12 : decode cX5_retardFast 12 = .ok (.ifCond .le 16, 3) := by decide +kernel
theorem dX5_retardFast_15 : decode cX5_retardFast 15 = .ok (.iload 5, 2) := by decide +kernel
theorem dX5_retardFast_17 : decode cX5_retardFast 17 = .ok (.iload_n 3, 1) := by decide +kernel
theorem dX5_retardFast_18 : decode cX5_retardFast 18 = .ok (.iload 4, 2) := by decide +kernel
theorem dX5_retardFast_20 : decode cX5_retardFast 20 = .ok (.isub, 1) := by decide +kernel
theorem dX5_retardFast_21 : decode cX5_retardFast 21 = .ok (.imul, 1) := by decide +kernel
theorem dX5_retardFast_22 : decode cX5_retardFast 22 = .ok (.iload 4, 2) := by decide +kernel
theorem dX5_retardFast_24 : decode cX5_retardFast 24 = .ok (.idiv, 1) := by decide +kernel
theorem dX5_retardFast_25 : decode cX5_retardFast 25 = .ok (.goto 4, 3) := by decide +kernel
theorem dX5_retardFast_28 : decode cX5_retardFast 28 = .ok (.iconst 0, 1) := by decide +kernel
theorem dX5_retardFast_29 : decode cX5_retardFast 29 = .ok (.istore 6, 2) := by decide +kernel
theorem dX5_retardFast_31 : decode cX5_retardFast 31 = .ok (.aload_n 0, 1) := by decide +kernel
theorem dX5_retardFast_32 : decode cX5_retardFast 32 = .ok (.getfield 20, 3) := by decide +kernel
theorem dX5_retardFast_35 : decode cX5_retardFast 35 = .ok (.iload_n 1, 1) := by decide +kernel
theorem dX5_retardFast_36 : decode cX5_retardFast 36 = .ok (.invokevirtual 99, 3) := by decide +kernel
theorem dX5_retardFast_39 : decode cX5_retardFast 39 = .ok (.iload 5, 2) := by decide +kernel
theorem dX5_retardFast_41 : decode cX5_retardFast 41 = .ok (.iadd, 1) := by decide +kernel
theorem dX5_retardFast_42 : decode cX5_retardFast 42 = .ok (.iconst 3, 1) := by decide +kernel
theorem dX5_retardFast_43 : decode cX5_retardFast 43 = .ok (.iload 5, 2) := by decide +kernel
theorem dX5_retardFast_45 : decode cX5_retardFast 45 = .ok (.imul, 1) := by decide +kernel
theorem dX5_retardFast_46 : decode cX5_retardFast 46 = .ok (.iload 6, 2) := by decide +kernel
theorem dX5_retardFast_48 : decode cX5_retardFast 48 = .ok (.invokestatic 106, 3) := by decide +kernel
theorem dX5_retardFast_51 : decode cX5_retardFast 51 = .ok (.iadd, 1) := by decide +kernel
theorem dX5_retardFast_52 : decode cX5_retardFast 52 = .ok (.istore 7, 2) := by decide +kernel
theorem dX5_retardFast_54 : decode cX5_retardFast 54 = .ok (.aload_n 0, 1) := by decide +kernel
theorem dX5_retardFast_55 : decode cX5_retardFast 55 = .ok (.getfield 14, 3) := by decide +kernel
theorem dX5_retardFast_58 : decode cX5_retardFast 58 = .ok (.iconst 3, 1) := by decide +kernel
theorem dX5_retardFast_59 : decode cX5_retardFast 59 = .ok (.invokevirtual 99, 3) := by decide +kernel
theorem dX5_retardFast_62 : decode cX5_retardFast 62 = .ok (.aload_n 0, 1) := by decide +kernel
theorem dX5_retardFast_63 : decode cX5_retardFast 63 = .ok (.getfield 32, 3) := by decide +kernel
theorem dX5_retardFast_66 : decode cX5_retardFast 66 = .ok (.iload_n 2, 1) := by decide +kernel
theorem dX5_retardFast_67 : decode cX5_retardFast 67 = .ok (.invokevirtual 99, 3) := by decide +kernel
theorem dX5_retardFast_70 : decode cX5_retardFast 70 = .ok (.isub, 1) := by decide +kernel
theorem dX5_retardFast_71 : decode cX5_retardFast 71 = .ok (.istore 8, 2) := by decide +kernel
theorem dX5_retardFast_73 : decode cX5_retardFast 73 = .ok (.aload_n 0, 1) := by decide +kernel
theorem dX5_retardFast_74 : decode cX5_retardFast 74 = .ok (.getfield 20, 3) := by decide +kernel
theorem dX5_retardFast_77 : decode cX5_retardFast 77 = .ok (.iload_n 1, 1) := by decide +kernel
theorem dX5_retardFast_78 : decode cX5_retardFast 78 = .ok (.aload_n 0, 1) := by decide +kernel
theorem dX5_retardFast_79 : decode cX5_retardFast 79 = .ok (.getfield 20, 3) := by decide +kernel
theorem dX5_retardFast_82 : decode cX5_retardFast 82 = .ok (.iload_n 1, 1) := by decide +kernel
theorem dX5_retardFast_83 : decode cX5_retardFast 83 = .ok (.invokevirtual 99, 3) := by decide +kernel
theorem dX5_retardFast_86 : decode cX5_retardFast 86 = .ok (.iload 7, 2) := by decide +kernel
theorem dX5_retardFast_88 : decode cX5_retardFast 88 = .ok (.iload 8, 2) := by decide +kernel
theorem dX5_retardFast_90 : decode cX5_retardFast 90 = .ok (.invokestatic 106, 3) := by decide +kernel
theorem dX5_retardFast_93 : decode cX5_retardFast 93 = .ok (.invokestatic 123, 3) := by decide +kernel
theorem dX5_retardFast_96 : decode cX5_retardFast 96 = .ok (.invokevirtual 46, 3) := by decide +kernel
theorem dX5_retardFast_99 : decode cX5_retardFast 99 = .ok (.return_, 1) := by decide +kernel
theorem dX5_lowerFast_0 : decode cX5_lowerFast 0 = .ok (.aload_n 0, 1) := by decide +kernel
theorem dX5_lowerFast_1 : decode cX5_lowerFast 1 = .ok (.getfield 20, 3) := by decide +kernel
theorem dX5_lowerFast_4 : decode cX5_lowerFast 4 = .ok (.iload_n 1, 1) := by decide +kernel
theorem dX5_lowerFast_5 : decode cX5_lowerFast 5 = .ok (.invokevirtual 99, 3) := by decide +kernel
theorem dX5_lowerFast_8 : decode cX5_lowerFast 8 = .ok (.ifCond .le 12, 3) := by decide +kernel
theorem dX5_lowerFast_11 : decode cX5_lowerFast 11 = .ok (.aload_n 0, 1) := by decide +kernel
theorem dX5_lowerFast_12 : decode cX5_lowerFast 12 = .ok (.getfield 20, 3) := by decide +kernel
theorem dX5_lowerFast_15 : decode cX5_lowerFast 15 = .ok (.iload_n 1, 1) := by decide +kernel
theorem dX5_lowerFast_16 : decode cX5_lowerFast 16 = .ok (.iconst (-1), 1) := by decide +kernel
theorem dX5_lowerFast_17 : decode cX5_lowerFast 17 = .ok (.invokevirtual 163, 3) := by decide +kernel
theorem dX5_lowerFast_20 : decode cX5_lowerFast 20 = .ok (.return_, 1) := by decide +kernel
theorem dX5_keepTogether_0 : decode cX5_keepTogether 0 = .ok (.aload_n 0, 1) := by decide +kernel
theorem dX5_keepTogether_1 : decode cX5_keepTogether 1 = .ok (.invokevirtual 172, 3) := by decide +kernel
theorem dX5_keepTogether_4 : decode cX5_keepTogether 4 = .ok (.aload_n 0, 1) := by decide +kernel
theorem dX5_keepTogether_5 : decode cX5_keepTogether 5 = .ok (.getfield 14, 3) := by decide +kernel
theorem dX5_keepTogether_8 : decode cX5_keepTogether 8 = .ok (.iconst 4, 1) := by decide +kernel
theorem dX5_keepTogether_9 : decode cX5_keepTogether 9 = .ok (.invokevirtual 99, 3) := by decide +kernel
theorem dX5_keepTogether_12 : decode cX5_keepTogether 12 = .ok (.isub, 1) := by decide +kernel
theorem dX5_keepTogether_13 : decode cX5_keepTogether 13 = .ok (.istore_n 1, 1) := by decide +kernel
theorem dX5_keepTogether_14 : decode cX5_keepTogether 14 = .ok (.iconst 0, 1) := by decide +kernel
theorem dX5_keepTogether_15 : decode cX5_keepTogether 15 = .ok (.istore_n 2, 1) := by decide +kernel
theorem dX5_keepTogether_16 : decode cX5_keepTogether 16 = .ok (.iload_n 2, 1) := by decide +kernel
theorem dX5_keepTogether_17 : decode cX5_keepTogether 17 = .ok (.aload_n 0, 1) := by decide +kernel
theorem dX5_keepTogether_18 : decode cX5_keepTogether 18 = .ok (.getfield 61, 3) := by decide +kernel
theorem dX5_keepTogether_21 : decode cX5_keepTogether 21 = .ok (.if_icmp .ge 29, 3) := by decide +kernel
theorem dX5_keepTogether_24 : decode cX5_keepTogether 24 = .ok (.aload_n 0, 1) := by decide +kernel
theorem dX5_keepTogether_25 : decode cX5_keepTogether 25 = .ok (.getfield 20, 3) := by decide +kernel
theorem dX5_keepTogether_28 : decode cX5_keepTogether 28 = .ok (.iload_n 2, 1) := by decide +kernel
theorem dX5_keepTogether_29 : decode cX5_keepTogether 29 = .ok (.aload_n 0, 1) := by decide +kernel
theorem dX5_keepTogether_30 : decode cX5_keepTogether 30 = .ok (.getfield 20, 3) := by decide +kernel
theorem dX5_keepTogether_33 : decode cX5_keepTogether 33 = .ok (.iload_n 2, 1) := by decide +kernel
theorem dX5_keepTogether_34 : decode cX5_keepTogether 34 = .ok (.invokevirtual 99, 3) := by decide +kernel
theorem dX5_keepTogether_37 : decode cX5_keepTogether 37 = .ok (.iload_n 1, 1) := by decide +kernel
theorem dX5_keepTogether_38 : decode cX5_keepTogether 38 = .ok (.invokestatic 123, 3) := by decide +kernel
theorem dX5_keepTogether_41 : decode cX5_keepTogether 41 = .ok (.invokevirtual 46, 3) := by decide +kernel
theorem dX5_keepTogether_44 : decode cX5_keepTogether 44 = .ok (.iinc 2 1, 3) := by decide +kernel
theorem dX5_keepTogether_47 : decode cX5_keepTogether 47 = .ok (.goto (-31), 3) := by decide +kernel
theorem dX5_keepTogether_50 : decode cX5_keepTogether 50 = .ok (.return_, 1) := by decide +kernel
theorem dX5_learn_0 : decode cX5_learn 0 = .ok (.aload_n 0, 1) := by decide +kernel
theorem dX5_learn_1 : decode cX5_learn 1 = .ok (.getfield 61, 3) := by decide +kernel
theorem dX5_learn_4 : decode cX5_learn 4 = .ok (.ifCond .le 30, 3) := by decide +kernel
theorem dX5_learn_7 : decode cX5_learn 7 = .ok (.aload_n 0, 1) := by decide +kernel
theorem dX5_learn_8 : decode cX5_learn 8 = .ok (.getfield 71, 3) := by decide +kernel
theorem dX5_learn_11 : decode cX5_learn 11 = .ok (.aload_n 0, 1) := by decide +kernel
theorem dX5_learn_12 : decode cX5_learn 12 = .ok (.getfield 14, 3) := by decide +kernel
theorem dX5_learn_15 : decode cX5_learn 15 = .ok (.iconst 5, 1) := by decide +kernel
theorem dX5_learn_16 : decode cX5_learn 16 = .ok (.invokevirtual 99, 3) := by decide +kernel
theorem dX5_learn_19 : decode cX5_learn 19 = .ok (.if_icmp .lt 15, 3) := by decide +kernel
theorem dX5_learn_22 : decode cX5_learn 22 = .ok (.aload_n 0, 1) := by decide +kernel
theorem dX5_learn_23 : decode cX5_learn 23 = .ok (.getfield 71, 3) := by decide +kernel
theorem dX5_learn_26 : decode cX5_learn 26 = .ok (.aload_n 0, 1) := by decide +kernel
theorem dX5_learn_27 : decode cX5_learn 27 = .ok (.getfield 61, 3) := by decide +kernel
theorem dX5_learn_30 : decode cX5_learn 30 = .ok (.irem, 1) := by decide +kernel
theorem dX5_learn_31 : decode cX5_learn 31 = .ok (.ifCond .eq 4, 3) := by decide +kernel
theorem dX5_learn_34 : decode cX5_learn 34 = .ok (.return_, 1) := by decide +kernel
theorem dX5_learn_35 : decode cX5_learn 35 = .ok (.aload_n 0, 1) := by decide +kernel
theorem dX5_learn_36 : decode cX5_learn 36 = .ok (.invokevirtual 176, 3) := by decide +kernel
theorem dX5_learn_39 : decode cX5_learn 39 = .ok (.aload_n 0, 1) := by decide +kernel
theorem dX5_learn_40 : decode cX5_learn 40 = .ok (.getfield 61, 3) := by decide +kernel
theorem dX5_learn_43 : decode cX5_learn 43 = .ok (.idiv, 1) := by decide +kernel
theorem dX5_learn_44 : decode cX5_learn 44 = .ok (.istore_n 2, 1) := by decide +kernel
theorem dX5_learn_45 : decode cX5_learn 45 = .ok (.aload_n 0, 1) := by decide +kernel
theorem dX5_learn_46 : decode cX5_learn 46 = .ok (.getfield 32, 3) := by decide +kernel
theorem dX5_learn_49 : decode cX5_learn 49 = .ok (.iload_n 1, 1) := by decide +kernel
theorem dX5_learn_50 : decode cX5_learn 50 = .ok (.invokevirtual 99, 3) := by decide +kernel
theorem dX5_learn_53 : decode cX5_learn 53 = .ok (.istore_n 3, 1) := by decide +kernel
theorem dX5_learn_54 : decode cX5_learn 54 = .ok (.iload_n 2, 1) := by decide +kernel
theorem dX5_learn_55 : decode cX5_learn 55 = .ok (.bipush 20, 2) := by decide +kernel
theorem dX5_learn_57 : decode cX5_learn 57 = .ok (.if_icmp .le 60, 3) := by decide +kernel
theorem dX5_learn_60 : decode cX5_learn 60 = .ok (.iload_n 3, 1) := by decide +kernel
theorem dX5_learn_61 : decode cX5_learn 61 = .ok (.bipush 100, 2) := by decide +kernel
theorem dX5_learn_63 : decode cX5_learn 63 = .ok (.if_icmp .ge 54, 3) := by decide +kernel
theorem dX5_learn_66 : decode cX5_learn 66 = .ok (.aload_n 0, 1) := by decide +kernel
theorem dX5_learn_67 : decode cX5_learn 67 = .ok (.getfield 32, 3) := by decide +kernel
theorem dX5_learn_70 : decode cX5_learn 70 = .ok (.iload_n 1, 1) := by decide +kernel
theorem dX5_learn_71 : decode cX5_learn 71 = .ok (.iload_n 3, 1) := by decide +kernel
theorem dX5_learn_72 : decode cX5_learn 72 = .ok (.iconst 1, 1) := by decide +kernel
theorem dX5_learn_73 : decode cX5_learn 73 = .ok (.iadd, 1) := by decide +kernel
theorem dX5_learn_74 : decode cX5_learn 74 = .ok (.invokevirtual 46, 3) := by decide +kernel
theorem dX5_learn_77 : decode cX5_learn 77 = .ok (.iconst 0, 1) := by decide +kernel
theorem dX5_learn_78 : decode cX5_learn 78 = .ok (.istore 4, 2) := by decide +kernel
theorem dX5_learn_80 : decode cX5_learn 80 = .ok (.iload 4, 2) := by decide +kernel
theorem dX5_learn_82 : decode cX5_learn 82 = .ok (.aload_n 0, 1) := by decide +kernel
theorem dX5_learn_83 : decode cX5_learn 83 = .ok (.getfield 61, 3) := by decide +kernel
theorem dX5_learn_86 : decode cX5_learn 86 = .ok (.if_icmp .ge 15, 3) := by decide +kernel
theorem dX5_learn_89 : decode cX5_learn 89 = .ok (.aload_n 0, 1) := by decide +kernel
theorem dX5_learn_90 : decode cX5_learn 90 = .ok (.iload 4, 2) := by decide +kernel
theorem dX5_learn_92 : decode cX5_learn 92 = .ok (.invokevirtual 169, 3) := by decide +kernel
theorem dX5_learn_95 : decode cX5_learn 95 = .ok (.iinc 4 1, 3) := by decide +kernel
theorem dX5_learn_98 : decode cX5_learn 98 = .ok (.goto (-18), 3) := by decide +kernel
theorem dX5_learn_101 : decode cX5_learn 101 = .ok (.aload_n 0, 1) := by decide +kernel
theorem dX5_learn_102 : decode cX5_learn 102 = .ok (.getfield 38, 3) := by decide +kernel
theorem dX5_learn_105 : decode cX5_learn 105 = .ok (.iconst 3, 1) := by decide +kernel
theorem dX5_learn_106 : decode cX5_learn 106 = .ok (.iload_n 1, 1) := by decide +kernel
theorem dX5_learn_107 : decode cX5_learn 107 = .ok (.aload_n 0, 1) := by decide +kernel
theorem dX5_learn_108 : decode cX5_learn 108 = .ok (.getfield 86, 3) := by decide +kernel
theorem dX5_learn_111 : decode cX5_learn 111 = .ok (.invokevirtual 155, 3) := by decide +kernel
theorem dX5_learn_114 : decode cX5_learn 114 = .ok (.goto 36, 3) := by decide +kernel
theorem dX5_learn_117 : decode cX5_learn 117 = .ok (.iload_n 2, 1) := by decide +kernel
theorem dX5_learn_118 : decode cX5_learn 118 = .ok (.iconst 5, 1) := by decide +kernel
theorem dX5_learn_119 : decode cX5_learn 119 = .ok (.if_icmp .ge 31, 3) := by decide +kernel
theorem dX5_learn_122 : decode cX5_learn 122 = .ok (.iload_n 3, 1) := by decide +kernel
theorem dX5_learn_123 : decode cX5_learn 123 = .ok (.ifCond .le 27, 3) := by decide +kernel
theorem dX5_learn_126 : decode cX5_learn 126 = .ok (.aload_n 0, 1) := by decide +kernel
theorem dX5_learn_127 : decode cX5_learn 127 = .ok (.getfield 32, 3) := by decide +kernel
theorem dX5_learn_130 : decode cX5_learn 130 = .ok (.iload_n 1, 1) := by decide +kernel
theorem dX5_learn_131 : decode cX5_learn 131 = .ok (.iload_n 3, 1) := by decide +kernel
theorem dX5_learn_132 : decode cX5_learn 132 = .ok (.iconst 1, 1) := by decide +kernel
theorem dX5_learn_133 : decode cX5_learn 133 = .ok (.isub, 1) := by decide +kernel
theorem dX5_learn_134 : decode cX5_learn 134 = .ok (.invokevirtual 46, 3) := by decide +kernel
theorem dX5_learn_137 : decode cX5_learn 137 = .ok (.aload_n 0, 1) := by decide +kernel
theorem dX5_learn_138 : decode cX5_learn 138 = .ok (.getfield 38, 3) := by decide +kernel
theorem dX5_learn_141 : decode cX5_learn 141 = .ok (.iconst 4, 1) := by decide +kernel
theorem dX5_learn_142 : decode cX5_learn 142 = .ok (.iload_n 1, 1) := by decide +kernel
theorem dX5_learn_143 : decode cX5_learn 143 = .ok (.aload_n 0, 1) := by decide +kernel
theorem dX5_learn_144 : decode cX5_learn 144 = .ok (.getfield 86, 3) := by decide +kernel
theorem dX5_learn_147 : decode cX5_learn 147 = .ok (.invokevirtual 155, 3) := by decide +kernel
theorem dX5_learn_150 : decode cX5_learn 150 = .ok (.return_, 1) := by decide +kernel
theorem dX5_sumOfFast_0 : decode cX5_sumOfFast 0 = .ok (.iconst 0, 1) := by decide +kernel
theorem dX5_sumOfFast_1 : decode cX5_sumOfFast 1 = .ok (.istore_n 1, 1) := by decide +kernel
theorem dX5_sumOfFast_2 : decode cX5_sumOfFast 2 = .ok (.iconst 0, 1) := by decide +kernel
theorem dX5_sumOfFast_3 : decode cX5_sumOfFast 3 = .ok (.istore_n 2, 1) := by decide +kernel
theorem dX5_sumOfFast_4 : decode cX5_sumOfFast 4 = .ok (.iload_n 2, 1) := by decide +kernel
theorem dX5_sumOfFast_5 : decode cX5_sumOfFast 5 = .ok (.aload_n 0, 1) := by decide +kernel
theorem dX5_sumOfFast_6 : decode cX5_sumOfFast 6 = .ok (.getfield 61, 3) := by decide +kernel
theorem dX5_sumOfFast_9 : decode cX5_sumOfFast 9 = .ok (.if_icmp .ge 20, 3) := by decide +kernel
theorem dX5_sumOfFast_12 : decode cX5_sumOfFast 12 = .ok (.iload_n 1, 1) := by decide +kernel
theorem dX5_sumOfFast_13 : decode cX5_sumOfFast 13 = .ok (.aload_n 0, 1) := by decide +kernel
theorem dX5_sumOfFast_14 : decode cX5_sumOfFast 14 = .ok (.getfield 20, 3) := by decide +kernel
theorem dX5_sumOfFast_17 : decode cX5_sumOfFast 17 = .ok (.iload_n 2, 1) := by decide +kernel
theorem dX5_sumOfFast_18 : decode cX5_sumOfFast 18 = .ok (.invokevirtual 99, 3) := by decide +kernel
theorem dX5_sumOfFast_21 : decode cX5_sumOfFast 21 = .ok (.iadd, 1) := by decide +kernel
theorem dX5_sumOfFast_22 : decode cX5_sumOfFast 22 = .ok (.istore_n 1, 1) := by decide +kernel
theorem dX5_sumOfFast_23 : decode cX5_sumOfFast 23 = .ok (.iinc 2 1, 3) := by decide +kernel
theorem dX5_sumOfFast_26 : decode cX5_sumOfFast 26 = .ok (.goto (-22), 3) := by decide +kernel
theorem dX5_sumOfFast_29 : decode cX5_sumOfFast 29 = .ok (.iload_n 1, 1) := by decide +kernel
theorem dX5_sumOfFast_30 : decode cX5_sumOfFast 30 = .ok (.ireturn, 1) := by decide +kernel
theorem dX6_init_0 : decode cX6_init 0 = .ok (.aload_n 0, 1) := by decide +kernel
theorem dX6_init_1 : decode cX6_init 1 = .ok (.invokespecial 3, 3) := by decide +kernel
theorem dX6_init_4 : decode cX6_init 4 = .ok (.aload_n 0, 1) := by decide +kernel
theorem dX6_init_5 : decode cX6_init 5 = .ok (.new 9, 3) := by decide +kernel
theorem dX6_init_8 : decode cX6_init 8 = .ok (.dup, 1) := by decide +kernel
theorem dX6_init_9 : decode cX6_init 9 = .ok (.invokespecial 11, 3) := by decide +kernel
theorem dX6_init_12 : decode cX6_init 12 = .ok (.putfield 12, 3) := by decide +kernel
theorem dX6_init_15 : decode cX6_init 15 = .ok (.aload_n 0, 1) := by decide +kernel
theorem dX6_init_16 : decode cX6_init 16 = .ok (.new 9, 3) := by decide +kernel
theorem dX6_init_19 : decode cX6_init 19 = .ok (.dup, 1) := by decide +kernel
theorem dX6_init_20 : decode cX6_init 20 = .ok (.invokespecial 11, 3) := by decide +kernel
theorem dX6_init_23 : decode cX6_init 23 = .ok (.putfield 16, 3) := by decide +kernel
theorem dX6_init_26 : decode cX6_init 26 = .ok (.aload_n 0, 1) := by decide +kernel
theorem dX6_init_27 : decode cX6_init 27 = .ok (.new 19, 3) := by decide +kernel
theorem dX6_init_30 : decode cX6_init 30 = .ok (.dup, 1) := by decide +kernel
theorem dX6_init_31 : decode cX6_init 31 = .ok (.invokespecial 21, 3) := by decide +kernel
theorem dX6_init_34 : decode cX6_init 34 = .ok (.putfield 22, 3) := by decide +kernel
theorem dX6_init_37 : decode cX6_init 37 = .ok (.aload_n 0, 1) := by decide +kernel
theorem dX6_init_38 : decode cX6_init 38 = .ok (.new 26, 3) := by decide +kernel
theorem dX6_init_41 : decode cX6_init 41 = .ok (.dup, 1) := by decide +kernel
theorem dX6_init_42 : decode cX6_init 42 = .ok (.invokespecial 28, 3) := by decide +kernel
theorem dX6_init_45 : decode cX6_init 45 = .ok (.putfield 29, 3) := by decide +kernel
theorem dX6_init_48 : decode cX6_init 48 = .ok (.return_, 1) := by decide +kernel
theorem dX6_begin_0 : decode cX6_begin 0 = .ok (.iload_n 1, 1) := by decide +kernel
theorem dX6_begin_1 : decode cX6_begin 1 = .ok (.iconst 2, 1) := by decide +kernel
theorem dX6_begin_2 : decode cX6_begin 2 = .ok (.bipush 8, 2) := by decide +kernel
theorem dX6_begin_4 : decode cX6_begin 4 = .ok (.invokestatic 33, 3) := by decide +kernel
theorem dX6_begin_7 : decode cX6_begin 7 = .ok (.invokestatic 37, 3) := by decide +kernel
theorem dX6_begin_10 : decode cX6_begin 10 = .ok (.aload_n 0, 1) := by decide +kernel
theorem dX6_begin_11 : decode cX6_begin 11 = .ok (.getfield 12, 3) := by decide +kernel
theorem dX6_begin_14 : decode cX6_begin 14 = .ok (.getfield 41, 3) := by decide +kernel
theorem dX6_begin_17 : decode cX6_begin 17 = .ok (.istore_n 2, 1) := by decide +kernel
theorem dX6_begin_18 : decode cX6_begin 18 = .ok (.aload_n 0, 1) := by decide +kernel
theorem dX6_begin_19 : decode cX6_begin 19 = .ok (.getfield 22, 3) := by decide +kernel
theorem dX6_begin_22 : decode cX6_begin 22 = .ok (.aload_n 0, 1) := by decide +kernel
theorem dX6_begin_23 : decode cX6_begin 23 = .ok (.getfield 12, 3) := by decide +kernel
theorem dX6_begin_26 : decode cX6_begin 26 = .ok (.invokevirtual 45, 3) := by decide +kernel
theorem dX6_begin_29 : decode cX6_begin 29 = .ok (.aload_n 0, 1) := by decide +kernel
theorem dX6_begin_30 : decode cX6_begin 30 = .ok (.getfield 12, 3) := by decide +kernel
theorem dX6_begin_33 : decode cX6_begin 33 = .ok (.iload_n 1, 1) := by decide +kernel
theorem dX6_begin_34 : decode cX6_begin 34 = .ok (.invokevirtual 49, 3) := by decide +kernel
theorem dX6_begin_37 : decode cX6_begin 37 = .ok (.iload_n 2, 1) := by decide +kernel
theorem dX6_begin_38 : decode cX6_begin 38 = .ok (.ireturn, 1) := by decide +kernel
theorem dX6_set_0 : decode cX6_set 0 = .ok (.iload_n 1, 1) := by decide +kernel
theorem dX6_set_1 : decode cX6_set 1 = .ok (.iload_n 2, 1) := by decide +kernel
theorem dX6_set_2 : decode cX6_set 2 = .ok (.invokestatic 53, 3) := by decide +kernel
theorem dX6_set_5 : decode cX6_set 5 = .ok (.invokestatic 37, 3) := by decide +kernel
theorem dX6_set_8 : decode cX6_set 8 = .ok (.aload_n 0, 1) := by decide +kernel
theorem dX6_set_9 : decode cX6_set 9 = .ok (.getfield 12, 3) := by decide +kernel
theorem dX6_set_12 : decode cX6_set 12 = .ok (.getfield 57, 3) := by decide +kernel
theorem dX6_set_15 : decode cX6_set 15 = .ok (.iload_n 1, 1) := by decide +kernel
theorem dX6_set_16 : decode cX6_set 16 = .ok (.invokevirtual 61, 3) := by decide +kernel
theorem dX6_set_19 : decode cX6_set 19 = .ok (.istore_n 3, 1) := by decide +kernel
theorem dX6_set_20 : decode cX6_set 20 = .ok (.aload_n 0, 1) := by decide +kernel
theorem dX6_set_21 : decode cX6_set 21 = .ok (.getfield 22, 3) := by decide +kernel
theorem dX6_set_24 : decode cX6_set 24 = .ok (.aload_n 0, 1) := by decide +kernel
theorem dX6_set_25 : decode cX6_set 25 = .ok (.getfield 12, 3) := by decide +kernel
theorem dX6_set_28 : decode cX6_set 28 = .ok (.invokevirtual 45, 3) := by decide +kernel
theorem dX6_set_31 : decode cX6_set 31 = .ok (.aload_n 0, 1) := by decide +kernel
theorem dX6_set_32 : decode cX6_set 32 = .ok (.getfield 12, 3) := by decide +kernel
theorem dX6_set_35 : decode cX6_set 35 = .ok (.getfield 57, 3) := by decide +kernel
theorem dX6_set_38 : decode cX6_set 38 = .ok (.iload_n 1, 1) := by decide +kernel
theorem dX6_set_39 : decode cX6_set 39 = .ok (.iload_n 2, 1) := by decide +kernel
theorem dX6_set_40 : decode cX6_set 40 = .ok (.invokevirtual 67, 3) := by decide +kernel
theorem dX6_set_43 : decode cX6_set 43 = .ok (.iload_n 3, 1) := by decide +kernel
theorem dX6_set_44 : decode cX6_set 44 = .ok (.ireturn, 1) := by decide +kernel
theorem dX6_value_0 : decode cX6_value 0 = .ok (.iload_n 1, 1) := by decide +kernel
theorem dX6_value_1 : decode cX6_value 1 = .ok (.iconst 0, 1) := by decide +kernel
theorem dX6_value_2 : decode cX6_value 2 = .ok (.bipush 8, 2) := by decide +kernel
theorem dX6_value_4 : decode cX6_value 4 = .ok (.invokestatic 33, 3) := by decide +kernel
theorem dX6_value_7 : decode cX6_value 7 = .ok (.invokestatic 37, 3) := by decide +kernel
theorem dX6_value_10 : decode cX6_value 10 = .ok (.aload_n 0, 1) := by decide +kernel
theorem dX6_value_11 : decode cX6_value 11 = .ok (.getfield 12, 3) := by decide +kernel
theorem dX6_value_14 : decode cX6_value 14 = .ok (.iload_n 1, 1) := by decide +kernel
theorem dX6_value_15 : decode cX6_value 15 = .ok (.invokevirtual 71, 3) := by decide +kernel
theorem dX6_value_18 : decode cX6_value 18 = .ok (.ireturn, 1) := by decide +kernel
theorem dX6_teach_0 : decode cX6_teach 0 = .ok (.iload_n 1, 1) := by decide +kernel
theorem dX6_teach_1 : decode cX6_teach 1 = .ok (.iload_n 2, 1) := by decide +kernel
theorem dX6_teach_2 : decode cX6_teach 2 = .ok (.invokestatic 74, 3) := by decide +kernel
theorem dX6_teach_5 : decode cX6_teach 5 = .ok (.invokestatic 77, 3) := by decide +kernel
theorem dX6_teach_8 : decode cX6_teach 8 = .ok (.iload_n 3, 1) := by decide +kernel
theorem dX6_teach_9 : decode cX6_teach 9 = .ok (.iconst 0, 1) := by decide +kernel
theorem dX6_teach_10 : decode cX6_teach 10 = .ok (.bipush 100, 2) := by decide +kernel
theorem dX6_teach_12 : decode cX6_teach 12 = .ok (.invokestatic 33, 3) := by decide +kernel
theorem dX6_teach_15 : decode cX6_teach 15 = .ok (.invokestatic 37, 3) := by decide +kernel
theorem dX6_teach_18 : decode cX6_teach 18 = .ok (.iconst 4, 1) := by decide +kernel
theorem dX6_teach_19 : decode cX6_teach 19 = .ok (.iload_n 1, 1) := by decide +kernel
theorem dX6_teach_20 : decode cX6_teach 20 = .ok (.imul, 1) := by decide +kernel
theorem dX6_teach_21 : decode cX6_teach 21 = .ok (.iload_n 2, 1) := by decide +kernel
theorem dX6_teach_22 : decode cX6_teach 22 = .ok (.iadd, 1) := by decide +kernel
theorem dX6_teach_23 : decode cX6_teach 23 = .ok (.istore 4, 2) := by decide +kernel
theorem dX6_teach_25 : decode cX6_teach 25 = .ok (.aload_n 0, 1) := by decide +kernel
theorem dX6_teach_26 : decode cX6_teach 26 = .ok (.getfield 12, 3) := by decide +kernel
theorem dX6_teach_29 : decode cX6_teach 29 = .ok (.getfield 80, 3) := by decide +kernel
theorem dX6_teach_32 : decode cX6_teach 32 = .ok (.iload 4, 2) := by decide +kernel
theorem dX6_teach_34 : decode cX6_teach 34 = .ok (.invokevirtual 61, 3) := by decide +kernel
theorem dX6_teach_37 : decode cX6_teach 37 = .ok (.istore 5, 2) := by decide +kernel
theorem dX6_teach_39 : decode cX6_teach 39 = .ok (.aload_n 0, 1) := by decide +kernel
theorem dX6_teach_40 : decode cX6_teach 40 = .ok (.getfield 22, 3) := by decide +kernel
theorem dX6_teach_43 : decode cX6_teach 43 = .ok (.aload_n 0, 1) := by decide +kernel
theorem dX6_teach_44 : decode cX6_teach 44 = .ok (.getfield 12, 3) := by decide +kernel
theorem dX6_teach_47 : decode cX6_teach 47 = .ok (.invokevirtual 45, 3) := by decide +kernel
theorem dX6_teach_50 : decode cX6_teach 50 = .ok (.aload_n 0, 1) := by decide +kernel
theorem dX6_teach_51 : decode cX6_teach 51 = .ok (.getfield 12, 3) := by decide +kernel
theorem dX6_teach_54 : decode cX6_teach 54 = .ok (.getfield 80, 3) := by decide +kernel
theorem dX6_teach_57 : decode cX6_teach 57 = .ok (.iload 4, 2) := by decide +kernel
theorem dX6_teach_59 : decode cX6_teach 59 = .ok (.iload_n 3, 1) := by decide +kernel
theorem dX6_teach_60 : decode cX6_teach 60 = .ok (.invokevirtual 67, 3) := by decide +kernel
theorem dX6_teach_63 : decode cX6_teach 63 = .ok (.iload 5, 2) := by decide +kernel
theorem dX6_teach_65 : decode cX6_teach 65 = .ok (.ireturn, 1) := by decide +kernel
theorem dX6_breakSensor_0 : decode cX6_breakSensor 0 = .ok (.aload_n 0, 1) := by decide +kernel
theorem dX6_breakSensor_1 : decode cX6_breakSensor 1 = .ok (.getfield 12, 3) := by decide +kernel
theorem dX6_breakSensor_4 : decode cX6_breakSensor 4 = .ok (.getfield 83, 3) := by decide +kernel
theorem dX6_breakSensor_7 : decode cX6_breakSensor 7 = .ok (.istore_n 2, 1) := by decide +kernel
theorem dX6_breakSensor_8 : decode cX6_breakSensor 8 = .ok (.aload_n 0, 1) := by decide +kernel
theorem dX6_breakSensor_9 : decode cX6_breakSensor 9 = .ok (.getfield 22, 3) := by decide +kernel
theorem dX6_breakSensor_12 : decode cX6_breakSensor 12 = .ok (.aload_n 0, 1) := by decide +kernel
theorem dX6_breakSensor_13 : decode cX6_breakSensor 13 = .ok (.getfield 12, 3) := by decide +kernel
theorem dX6_breakSensor_16 : decode cX6_breakSensor 16 = .ok (.invokevirtual 45, 3) := by decide +kernel
theorem dX6_breakSensor_19 : decode cX6_breakSensor 19 = .ok (.aload_n 0, 1) := by decide +kernel
theorem dX6_breakSensor_20 : decode cX6_breakSensor 20 = .ok (.getfield 12, 3) := by decide +kernel
theorem dX6_breakSensor_23 : decode cX6_breakSensor 23 = .ok (.iload_n 1, 1) := by decide +kernel
theorem dX6_breakSensor_24 : decode cX6_breakSensor 24 = .ok (.putfield 83, 3) := by decide +kernel
theorem dX6_breakSensor_27 : decode cX6_breakSensor 27 = .ok (.iload_n 2, 1) := by decide +kernel
theorem dX6_breakSensor_28 : decode cX6_breakSensor 28 = .ok (.ireturn, 1) := by decide +kernel
theorem dX6_seed_0 : decode cX6_seed 0 = .ok (.iload_n 1, 1) := by decide +kernel
theorem dX6_seed_1 : decode cX6_seed 1 = .ok (.iconst 0, 1) := by decide +kernel
theorem dX6_seed_2 : decode cX6_seed 2 = .ok (.ldc 87, 2) := by decide +kernel
theorem dX6_seed_4 : decode cX6_seed 4 = .ok (.invokestatic 33, 3) := by decide +kernel
theorem dX6_seed_7 : decode cX6_seed 7 = .ok (.invokestatic 37, 3) := by decide +kernel
theorem dX6_seed_10 : decode cX6_seed 10 = .ok (.aload_n 0, 1) := by decide +kernel
theorem dX6_seed_11 : decode cX6_seed 11 = .ok (.getfield 12, 3) := by decide +kernel
theorem dX6_seed_14 : decode cX6_seed 14 = .ok (.getfield 88, 3) := by decide +kernel
theorem dX6_seed_17 : decode cX6_seed 17 = .ok (.istore_n 2, 1) := by decide +kernel
theorem dX6_seed_18 : decode cX6_seed 18 = .ok (.aload_n 0, 1) := by decide +kernel
theorem dX6_seed_19 : decode cX6_seed 19 = .ok (.getfield 22, 3) := by decide +kernel
theorem dX6_seed_22 : decode cX6_seed 22 = .ok (.aload_n 0, 1) := by decide +kernel
theorem dX6_seed_23 : decode cX6_seed 23 = .ok (.getfield 12, 3) := by decide +kernel
theorem dX6_seed_26 : decode cX6_seed 26 = .ok (.invokevirtual 45, 3) := by decide +kernel
theorem dX6_seed_29 : decode cX6_seed 29 = .ok (.aload_n 0, 1) := by decide +kernel
theorem dX6_seed_30 : decode cX6_seed 30 = .ok (.getfield 12, 3) := by decide +kernel
theorem dX6_seed_33 : decode cX6_seed 33 = .ok (.iload_n 1, 1) := by decide +kernel
theorem dX6_seed_34 : decode cX6_seed 34 = .ok (.putfield 88, 3) := by decide +kernel
theorem dX6_seed_37 : decode cX6_seed 37 = .ok (.iload_n 2, 1) := by decide +kernel
theorem dX6_seed_38 : decode cX6_seed 38 = .ok (.ireturn, 1) := by decide +kernel
theorem dX6_fire_0 : decode cX6_fire 0 = .ok (.iload_n 1, 1) := by decide +kernel
theorem dX6_fire_1 : decode cX6_fire 1 = .ok (.iload_n 2, 1) := by decide +kernel
theorem dX6_fire_2 : decode cX6_fire 2 = .ok (.iload_n 3, 1) := by decide +kernel
theorem dX6_fire_3 : decode cX6_fire 3 = .ok (.invokestatic 91, 3) := by decide +kernel
theorem dX6_fire_6 : decode cX6_fire 6 = .ok (.invokestatic 37, 3) := by decide +kernel
theorem dX6_fire_9 : decode cX6_fire 9 = .ok (.aload_n 0, 1) := by decide +kernel
theorem dX6_fire_10 : decode cX6_fire 10 = .ok (.getfield 22, 3) := by decide +kernel
theorem dX6_fire_13 : decode cX6_fire 13 = .ok (.aload_n 0, 1) := by decide +kernel
theorem dX6_fire_14 : decode cX6_fire 14 = .ok (.getfield 12, 3) := by decide +kernel
theorem dX6_fire_17 : decode cX6_fire 17 = .ok (.invokevirtual 45, 3) := by decide +kernel
theorem dX6_fire_20 : decode cX6_fire 20 = .ok (.aload_n 0, 1) := by decide +kernel
theorem dX6_fire_21 : decode cX6_fire 21 = .ok (.getfield 12, 3) := by decide +kernel
theorem dX6_fire_24 : decode cX6_fire 24 = .ok (.iload_n 1, 1) := by decide +kernel
theorem dX6_fire_25 : decode cX6_fire 25 = .ok (.iload_n 2, 1) := by decide +kernel
theorem dX6_fire_26 : decode cX6_fire 26 = .ok (.iload_n 3, 1) := by decide +kernel
theorem dX6_fire_27 : decode cX6_fire 27 = .ok (.invokevirtual 94, 3) := by decide +kernel
theorem dX6_fire_30 : decode cX6_fire 30 = .ok (.ireturn, 1) := by decide +kernel
theorem dX6_drive_0 : decode cX6_drive 0 = .ok (.iload_n 1, 1) := by decide +kernel
theorem dX6_drive_1 : decode cX6_drive 1 = .ok (.iload_n 2, 1) := by decide +kernel
theorem dX6_drive_2 : decode cX6_drive 2 = .ok (.iload_n 3, 1) := by decide +kernel
theorem dX6_drive_3 : decode cX6_drive 3 = .ok (.invokestatic 98, 3) := by decide +kernel
theorem dX6_drive_6 : decode cX6_drive 6 = .ok (.ifCond .eq 19, 3) := by decide +kernel
theorem dX6_drive_9 : decode cX6_drive 9 = .ok (.iload 4, 2) := by decide +kernel
theorem dX6_drive_11 : decode cX6_drive 11 = .ok (.iconst 0, 1) := by decide +kernel
theorem dX6_drive_12 : decode cX6_drive 12 = .ok (.sipush 1000, 3) := by decide +kernel
theorem dX6_drive_15 : decode cX6_drive 15 = .ok (.invokestatic 33, 3) := by decide +kernel
theorem dX6_drive_18 : decode cX6_drive 18 = .ok (.ifCond .eq 7, 3) := by decide +kernel
theorem dX6_drive_21 : decode cX6_drive 21 = .ok (.iconst 1, 1) := by decide +kernel
theorem dX6_drive_22 : decode cX6_drive 22 = .ok (.goto 4, 3) := by decide +kernel
theorem dX6_drive_25 : decode cX6_drive 25 = .ok (.iconst 0, 1) := by decide +kernel
theorem dX6_drive_26 : decode cX6_drive 26 = .ok (.invokestatic 37, 3) := by decide +kernel
theorem dX6_drive_29 : decode cX6_drive 29 = .ok (.aload_n 0, 1) := by decide +kernel
theorem dX6_drive_30 : decode cX6_drive 30 = .ok (.getfield 22, 3) := by decide +kernel
theorem dX6_drive_33 : decode cX6_drive 33 = .ok (.aload_n 0, 1) := by decide +kernel
theorem dX6_drive_34 : decode cX6_drive 34 = .ok (.getfield 12, 3) := by decide +kernel
theorem dX6_drive_37 : decode cX6_drive 37 = .ok (.invokevirtual 45, 3) := by decide +kernel
theorem dX6_drive_40 : decode cX6_drive 40 = .ok (.iconst 0, 1) := by decide +kernel
theorem dX6_drive_41 : decode cX6_drive 41 = .ok (.istore 5, 2) := by decide +kernel
theorem dX6_drive_43 : decode cX6_drive 43 = .ok (.iconst 0, 1) := by decide +kernel
theorem dX6_drive_44 : decode cX6_drive 44 = .ok (.istore 6, 2) := by decide +kernel
theorem dX6_drive_46 : decode cX6_drive 46 = .ok (.iload 6, 2) := by decide +kernel
theorem dX6_drive_48 : decode cX6_drive 48 = .ok (.iload 4, 2) := by decide +kernel
theorem dX6_drive_50 : decode cX6_drive 50 = .ok (.if_icmp .ge 26, 3) := by decide +kernel
theorem dX6_drive_53 : decode cX6_drive 53 = .ok (.aload_n 0, 1) := by decide +kernel
theorem dX6_drive_54 : decode cX6_drive 54 = .ok (.getfield 12, 3) := by decide +kernel
theorem dX6_drive_57 : decode cX6_drive 57 = .ok (.iload_n 1, 1) := by decide +kernel
theorem dX6_drive_58 : decode cX6_drive 58 = .ok (.iload_n 2, 1) := by decide +kernel
theorem dX6_drive_59 : decode cX6_drive 59 = .ok (.iload_n 3, 1) := by decide +kernel
theorem dX6_drive_60 : decode cX6_drive 60 = .ok (.invokevirtual 101, 3) := by decide +kernel
theorem dX6_drive_63 : decode cX6_drive 63 = .ok (.iconst 1, 1) := by decide +kernel
theorem dX6_drive_64 : decode cX6_drive 64 = .ok (.if_icmp .ne 6, 3) := by decide +kernel
theorem dX6_drive_67 : decode cX6_drive 67 = .ok (.iinc 5 1, 3) := by decide +kernel
theorem dX6_drive_70 : decode cX6_drive 70 = .ok (.iinc 6 1, 3) := by decide +kernel
theorem dX6_drive_73 : decode cX6_drive 73 = .ok (.goto (-27), 3) := by decide +kernel
theorem dX6_drive_76 : decode cX6_drive 76 = .ok (.iload 5, 2) := by decide +kernel
theorem dX6_drive_78 : decode cX6_drive 78 = .ok (.ireturn, 1) := by decide +kernel
theorem dX6_firings_0 : decode cX6_firings 0 = .ok (.aload_n 0, 1) := by decide +kernel
theorem dX6_firings_1 : decode cX6_firings 1 = .ok (.getfield 12, 3) := by decide +kernel
theorem dX6_firings_4 : decode cX6_firings 4 = .ok (.getfield 41, 3) := by decide +kernel
theorem dX6_firings_7 : decode cX6_firings 7 = .ok (.ireturn, 1) := by decide +kernel
theorem dX6_next_0 : decode cX6_next 0 = .ok (.aload_n 0, 1) := by decide +kernel
theorem dX6_next_1 : decode cX6_next 1 = .ok (.getfield 12, 3) := by decide +kernel
theorem dX6_next_4 : decode cX6_next 4 = .ok (.getfield 104, 3) := by decide +kernel
theorem dX6_next_7 : decode cX6_next 7 = .ok (.ireturn, 1) := by decide +kernel
theorem dX6_cylinder_0 : decode cX6_cylinder 0 = .ok (.aload_n 0, 1) := by decide +kernel
theorem dX6_cylinder_1 : decode cX6_cylinder 1 = .ok (.iload_n 1, 1) := by decide +kernel
theorem dX6_cylinder_2 : decode cX6_cylinder 2 = .ok (.invokevirtual 107, 3) := by decide +kernel
theorem dX6_cylinder_5 : decode cX6_cylinder 5 = .ok (.invokestatic 77, 3) := by decide +kernel
theorem dX6_cylinder_8 : decode cX6_cylinder 8 = .ok (.iload_n 2, 1) := by decide +kernel
theorem dX6_cylinder_9 : decode cX6_cylinder 9 = .ok (.iconst 0, 1) := by decide +kernel
theorem dX6_cylinder_10 : decode cX6_cylinder 10 = .ok (.iconst 4, 1) := by decide +kernel
theorem dX6_cylinder_11 : decode cX6_cylinder 11 = .ok (.invokestatic 33, 3) := by decide +kernel
theorem dX6_cylinder_14 : decode cX6_cylinder 14 = .ok (.invokestatic 37, 3) := by decide +kernel
theorem dX6_cylinder_17 : decode cX6_cylinder 17 = .ok (.aload_n 0, 1) := by decide +kernel
theorem dX6_cylinder_18 : decode cX6_cylinder 18 = .ok (.getfield 12, 3) := by decide +kernel
theorem dX6_cylinder_21 : decode cX6_cylinder 21 = .ok (.iload_n 1, 1) := by decide +kernel
theorem dX6_cylinder_22 : decode cX6_cylinder 22 = .ok (.iload_n 2, 1) := by decide +kernel
theorem dX6_cylinder_23 : decode cX6_cylinder 23 = .ok (.invokevirtual 111, 3) := by decide +kernel
theorem dX6_cylinder_26 : decode cX6_cylinder 26 = .ok (.ireturn, 1) := by decide +kernel
theorem dX6_learned_0 : decode cX6_learned 0 = .ok (.iload_n 1, 1) := by decide +kernel
theorem dX6_learned_1 : decode cX6_learned 1 = .ok (.iload_n 2, 1) := by decide +kernel
theorem dX6_learned_2 : decode cX6_learned 2 = .ok (.invokestatic 74, 3) := by decide +kernel
theorem dX6_learned_5 : decode cX6_learned 5 = .ok (.invokestatic 77, 3) := by decide +kernel
theorem dX6_learned_8 : decode cX6_learned 8 = .ok (.aload_n 0, 1) := by decide +kernel
theorem dX6_learned_9 : decode cX6_learned 9 = .ok (.getfield 12, 3) := by decide +kernel
theorem dX6_learned_12 : decode cX6_learned 12 = .ok (.getfield 80, 3) := by decide +kernel
theorem dX6_learned_15 : decode cX6_learned 15 = .ok (.iconst 4, 1) := by decide +kernel
theorem dX6_learned_16 : decode cX6_learned 16 = .ok (.iload_n 1, 1) := by decide +kernel
theorem dX6_learned_17 : decode cX6_learned 17 = .ok (.imul, 1) := by decide +kernel
theorem dX6_learned_18 : decode cX6_learned 18 = .ok (.iload_n 2, 1) := by decide +kernel
theorem dX6_learned_19 : decode cX6_learned 19 = .ok (.iadd, 1) := by decide +kernel
theorem dX6_learned_20 : decode cX6_learned 20 = .ok (.invokevirtual 61, 3) := by decide +kernel
theorem dX6_learned_23 : decode cX6_learned 23 = .ok (.ireturn, 1) := by decide +kernel
theorem dX6_angle_0 : decode cX6_angle 0 = .ok (.aload_n 0, 1) := by decide +kernel
theorem dX6_angle_1 : decode cX6_angle 1 = .ok (.iload_n 1, 1) := by decide +kernel
theorem dX6_angle_2 : decode cX6_angle 2 = .ok (.invokevirtual 107, 3) := by decide +kernel
theorem dX6_angle_5 : decode cX6_angle 5 = .ok (.invokestatic 77, 3) := by decide +kernel
theorem dX6_angle_8 : decode cX6_angle 8 = .ok (.iload_n 2, 1) := by decide +kernel
theorem dX6_angle_9 : decode cX6_angle 9 = .ok (.iload_n 3, 1) := by decide +kernel
theorem dX6_angle_10 : decode cX6_angle 10 = .ok (.invokestatic 115, 3) := by decide +kernel
theorem dX6_angle_13 : decode cX6_angle 13 = .ok (.invokestatic 37, 3) := by decide +kernel
theorem dX6_angle_16 : decode cX6_angle 16 = .ok (.iload 4, 2) := by decide +kernel
theorem dX6_angle_18 : decode cX6_angle 18 = .ok (.ifCond .eq 14, 3) := by decide +kernel
theorem dX6_angle_21 : decode cX6_angle 21 = .ok (.aload_n 0, 1) := by decide +kernel
theorem dX6_angle_22 : decode cX6_angle 22 = .ok (.getfield 12, 3) := by decide +kernel
theorem dX6_angle_25 : decode cX6_angle 25 = .ok (.iload_n 1, 1) := by decide +kernel
theorem dX6_angle_26 : decode cX6_angle 26 = .ok (.iload_n 2, 1) := by decide +kernel
theorem dX6_angle_27 : decode cX6_angle 27 = .ok (.iload_n 3, 1) := by decide +kernel
theorem dX6_angle_28 : decode cX6_angle 28 = .ok (.invokevirtual 118, 3) := by decide +kernel
theorem dX6_angle_31 : decode cX6_angle 31 = .ok (.ireturn, 1) := by decide +kernel
theorem dX6_angle_32 : decode cX6_angle 32 = .ok (.aload_n 0, 1) := by decide +kernel
theorem dX6_angle_33 : decode cX6_angle 33 = .ok (.getfield 12, 3) := by decide +kernel
theorem dX6_angle_36 : decode cX6_angle 36 = .ok (.iload_n 1, 1) := by decide +kernel
theorem dX6_angle_37 : decode cX6_angle 37 = .ok (.iload_n 2, 1) := by decide +kernel
theorem dX6_angle_38 : decode cX6_angle 38 = .ok (.iload_n 3, 1) := by decide +kernel
theorem dX6_angle_39 : decode cX6_angle 39 = .ok (.invokestatic 121, 3) := by decide +kernel
theorem dX6_angle_42 : decode cX6_angle 42 = .ok (.invokevirtual 126, 3) := by decide +kernel
theorem dX6_angle_45 : decode cX6_angle 45 = .ok (.ireturn, 1) := by decide +kernel
theorem dX6_status_0 : decode cX6_status 0 = .ok (.iload_n 1, 1) := by decide +kernel
theorem dX6_status_1 : decode cX6_status 1 = .ok (.iconst 0, 1) := by decide +kernel
theorem dX6_status_2 : decode cX6_status 2 = .ok (.iconst 4, 1) := by decide +kernel
theorem dX6_status_3 : decode cX6_status 3 = .ok (.invokestatic 33, 3) := by decide +kernel
theorem dX6_status_6 : decode cX6_status 6 = .ok (.invokestatic 37, 3) := by decide +kernel
theorem dX6_status_9 : decode cX6_status 9 = .ok (.aload_n 0, 1) := by decide +kernel
theorem dX6_status_10 : decode cX6_status 10 = .ok (.getfield 12, 3) := by decide +kernel
theorem dX6_status_13 : decode cX6_status 13 = .ok (.iload_n 1, 1) := by decide +kernel
theorem dX6_status_14 : decode cX6_status 14 = .ok (.invokevirtual 129, 3) := by decide +kernel
theorem dX6_status_17 : decode cX6_status 17 = .ok (.ireturn, 1) := by decide +kernel
theorem dX6_unfairness_0 : decode cX6_unfairness 0 = .ok (.aload_n 0, 1) := by decide +kernel
theorem dX6_unfairness_1 : decode cX6_unfairness 1 = .ok (.getfield 12, 3) := by decide +kernel
theorem dX6_unfairness_4 : decode cX6_unfairness 4 = .ok (.invokevirtual 132, 3) := by decide +kernel
theorem dX6_unfairness_7 : decode cX6_unfairness 7 = .ok (.aload_n 0, 1) := by decide +kernel
theorem dX6_unfairness_8 : decode cX6_unfairness 8 = .ok (.getfield 12, 3) := by decide +kernel
theorem dX6_unfairness_11 : decode cX6_unfairness 11 = .ok (.invokevirtual 136, 3) := by decide +kernel
theorem dX6_unfairness_14 : decode cX6_unfairness 14 = .ok (.isub, 1) := by decide +kernel
theorem dX6_unfairness_15 : decode cX6_unfairness 15 = .ok (.ireturn, 1) := by decide +kernel
theorem dX6_rateBits_0 : decode cX6_rateBits 0 = .ok (.aload_n 0, 1) := by decide +kernel
theorem dX6_rateBits_1 : decode cX6_rateBits 1 = .ok (.getfield 12, 3) := by decide +kernel
theorem dX6_rateBits_4 : decode cX6_rateBits 4 = .ok (.getfield 41, 3) := by decide +kernel
theorem dX6_rateBits_7 : decode cX6_rateBits 7 = .ok (.ifCond .gt 5, 3) := by decide +kernel
theorem dX6_rateBits_10 : decode cX6_rateBits 10 = .ok (.iconst 0, 1) := by decide +kernel
theorem dX6_rateBits_11 : decode cX6_rateBits 11 = .ok (.ireturn, 1) := by decide +kernel
theorem dX6_rateBits_12 : decode cX6_rateBits 12 = .ok (.aload_n 0, 1) := by decide +kernel
theorem dX6_rateBits_13 : decode cX6_rateBits 13 = .ok (.getfield 12, 3) := by decide +kernel
theorem dX6_rateBits_16 : decode cX6_rateBits 16 = .ok (.invokevirtual 139, 3) := by decide +kernel
theorem dX6_rateBits_19 : decode cX6_rateBits 19 = .ok (.i2f, 1) := by decide +kernel
theorem dX6_rateBits_20 : decode cX6_rateBits 20 = .ok (.aload_n 0, 1) := by decide +kernel
theorem dX6_rateBits_21 : decode cX6_rateBits 21 = .ok (.getfield 12, 3) := by decide +kernel
theorem dX6_rateBits_24 : decode cX6_rateBits 24 = .ok (.getfield 41, 3) := by decide +kernel
theorem dX6_rateBits_27 : decode cX6_rateBits 27 = .ok (.i2f, 1) := by decide +kernel
theorem dX6_rateBits_28 : decode cX6_rateBits 28 = .ok (.fdiv, 1) := by decide +kernel
theorem dX6_rateBits_29 : decode cX6_rateBits 29 = .ok (.invokestatic 142, 3) := by decide +kernel
theorem dX6_rateBits_32 : decode cX6_rateBits 32 = .ok (.ireturn, 1) := by decide +kernel
theorem dX6_octane_0 : decode cX6_octane 0 = .ok (.iload_n 1, 1) := by decide +kernel
theorem dX6_octane_1 : decode cX6_octane 1 = .ok (.iconst 0, 1) := by decide +kernel
theorem dX6_octane_2 : decode cX6_octane 2 = .ok (.iconst 3, 1) := by decide +kernel
theorem dX6_octane_3 : decode cX6_octane 3 = .ok (.invokestatic 33, 3) := by decide +kernel
theorem dX6_octane_6 : decode cX6_octane 6 = .ok (.invokestatic 77, 3) := by decide +kernel
theorem dX6_octane_9 : decode cX6_octane 9 = .ok (.iconst 0, 1) := by decide +kernel
theorem dX6_octane_10 : decode cX6_octane 10 = .ok (.istore_n 2, 1) := by decide +kernel
theorem dX6_octane_11 : decode cX6_octane 11 = .ok (.iconst 0, 1) := by decide +kernel
theorem dX6_octane_12 : decode cX6_octane 12 = .ok (.istore_n 3, 1) := by decide +kernel
theorem dX6_octane_13 : decode cX6_octane 13 = .ok (.iconst 0, 1) := by decide +kernel
theorem dX6_octane_14 : decode cX6_octane 14 = .ok (.istore 4, 2) := by decide +kernel
theorem dX6_octane_16 : decode cX6_octane 16 = .ok (.iload 4, 2) := by decide +kernel
theorem dX6_octane_18 : decode cX6_octane 18 = .ok (.bipush 6, 2) := by decide +kernel
theorem dX6_octane_20 : decode cX6_octane 20 = .ok (.if_icmp .ge 40, 3) := by decide +kernel
theorem dX6_octane_23 : decode cX6_octane 23 = .ok (.aload_n 0, 1) := by decide +kernel
theorem dX6_octane_24 : decode cX6_octane 24 = .ok (.getfield 12, 3) := by decide +kernel
theorem dX6_octane_27 : decode cX6_octane 27 = .ok (.getfield 80, 3) := by decide +kernel
theorem dX6_octane_30 : decode cX6_octane 30 = .ok (.iconst 4, 1) := by decide +kernel
theorem dX6_octane_31 : decode cX6_octane 31 = .ok (.iload 4, 2) := by decide +kernel
theorem dX6_octane_33 : decode cX6_octane 33 = .ok (.imul, 1) := by decide +kernel
theorem dX6_octane_34 : decode cX6_octane 34 = .ok (.iload_n 1, 1) := by decide +kernel
theorem dX6_octane_35 : decode cX6_octane 35 = .ok (.iadd, 1) := by decide +kernel
theorem dX6_octane_36 : decode cX6_octane 36 = .ok (.invokevirtual 61, 3) := by decide +kernel
theorem dX6_octane_39 : decode cX6_octane 39 = .ok (.istore 5, 2) := by decide +kernel
theorem dX6_octane_41 : decode cX6_octane 41 = .ok (.iload 5, 2) := by decide +kernel
theorem dX6_octane_43 : decode cX6_octane 43 = .ok (.ifCond .le 11, 3) := by decide +kernel
theorem dX6_octane_46 : decode cX6_octane 46 = .ok (.iload_n 2, 1) := by decide +kernel
theorem dX6_octane_47 : decode cX6_octane 47 = .ok (.iload 5, 2) := by decide +kernel
theorem dX6_octane_49 : decode cX6_octane 49 = .ok (.iadd, 1) := by decide +kernel
theorem dX6_octane_50 : decode cX6_octane 50 = .ok (.istore_n 2, 1) := by decide +kernel
theorem dX6_octane_51 : decode cX6_octane 51 = .ok (.iinc 3 1, 3) := by decide +kernel
theorem dX6_octane_54 : decode cX6_octane 54 = .ok (.iinc 4 1, 3) := by decide +kernel
theorem dX6_octane_57 : decode cX6_octane 57 = .ok (.goto (-41), 3) := by decide +kernel
theorem dX6_octane_60 : decode cX6_octane 60 = .ok (.iload_n 3, 1) := by decide +kernel
theorem dX6_octane_61 : decode cX6_octane 61 = .ok (.ifCond .le 19, 3) := by decide +kernel
theorem dX6_octane_64 : decode cX6_octane 64 = .ok (.ldc2_w 146, 3) := by decide +kernel
theorem dX6_octane_67 : decode cX6_octane 67 = .ok (.iload_n 2, 1) := by decide +kernel
theorem dX6_octane_68 : decode cX6_octane 68 = .ok (.i2d, 1) := by decide +kernel
theorem dX6_octane_69 : decode cX6_octane 69 = .ok (.iload_n 3, 1) := by decide +kernel
theorem dX6_octane_70 : decode cX6_octane 70 = .ok (.i2d, 1) := by decide +kernel
theorem dX6_octane_71 : decode cX6_octane 71 = .ok (.ddiv, 1) := by decide +kernel
theorem dX6_octane_72 : decode cX6_octane 72 = .ok (.ldc2_w 148, 3) := by decide +kernel
theorem dX6_octane_75 : decode cX6_octane 75 = .ok (.ddiv, 1) := by decide +kernel
theorem dX6_octane_76 : decode cX6_octane 76 = .ok (.dsub, 1) := by decide +kernel
theorem dX6_octane_77 : decode cX6_octane 77 = .ok (.goto 6, 3) := by decide +kernel
theorem dX6_octane_80 : decode cX6_octane 80 = .ok (.ldc2_w 146, 3) := by decide +kernel
theorem dX6_octane_83 : decode cX6_octane 83 = .ok (.dreturn, 1) := by decide +kernel
theorem dX6_extreme_0 : decode cX6_extreme 0 = .ok (.iload_n 1, 1) := by decide +kernel
theorem dX6_extreme_1 : decode cX6_extreme 1 = .ok (.iconst 0, 1) := by decide +kernel
theorem dX6_extreme_2 : decode cX6_extreme 2 = .ok (.iload_n 2, 1) := by decide +kernel
theorem dX6_extreme_3 : decode cX6_extreme 3 = .ok (.ifCond .eq 8, 3) := by decide +kernel
theorem dX6_extreme_6 : decode cX6_extreme 6 = .ok (.bipush 6, 2) := by decide +kernel
theorem dX6_extreme_8 : decode cX6_extreme 8 = .ok (.goto 4, 3) := by decide +kernel
theorem dX6_extreme_11 : decode cX6_extreme 11 = .ok (.iconst 4, 1) := by decide +kernel
theorem dX6_extreme_12 : decode cX6_extreme 12 = .ok (.iconst 1, 1) := by decide +kernel
theorem dX6_extreme_13 : decode cX6_extreme 13 = .ok (.isub, 1) := by decide +kernel
theorem dX6_extreme_14 : decode cX6_extreme 14 = .ok (.invokestatic 33, 3) := by decide +kernel
theorem dX6_extreme_17 : decode cX6_extreme 17 = .ok (.invokestatic 77, 3) := by decide +kernel
theorem dX6_extreme_20 : decode cX6_extreme 20 = .ok (.iload_n 2, 1) := by decide +kernel
theorem dX6_extreme_21 : decode cX6_extreme 21 = .ok (.ifCond .eq 9, 3) := by decide +kernel
theorem dX6_extreme_24 : decode cX6_extreme 24 = .ok (.iconst 4, 1) := by decide +kernel
theorem dX6_extreme_25 : decode cX6_extreme 25 = .ok (.iload_n 1, 1) := by decide +kernel
theorem dX6_extreme_26 : decode cX6_extreme 26 = .ok (.imul, 1) := by decide +kernel
theorem dX6_extreme_27 : decode cX6_extreme 27 = .ok (.goto 4, 3) := by decide +kernel
theorem dX6_extreme_30 : decode cX6_extreme 30 = .ok (.iload_n 1, 1) := by decide +kernel
theorem dX6_extreme_31 : decode cX6_extreme 31 = .ok (.istore 4, 2) := by decide +kernel
theorem dX6_extreme_33 : decode cX6_extreme 33 = .ok (.iload_n 2, 1) := by decide +kernel
theorem dX6_extreme_34 : decode cX6_extreme 34 = .ok (.ifCond .eq 7, 3) := by decide +kernel
theorem dX6_extreme_37 : decode cX6_extreme 37 = .ok (.iconst 1, 1) := by decide +kernel
theorem dX6_extreme_38 : decode cX6_extreme 38 = .ok (.goto 4, 3) := by decide +kernel
theorem dX6_extreme_41 : decode cX6_extreme 41 = .ok (.iconst 4, 1) := by decide +kernel
theorem dX6_extreme_42 : decode cX6_extreme 42 = .ok (.istore 5, 2) := by decide +kernel
theorem dX6_extreme_44 : decode cX6_extreme 44 = .ok (.iload_n 2, 1) := by decide +kernel
theorem dX6_extreme_45 : decode cX6_extreme 45 = .ok (.ifCond .eq 7, 3) := by decide +kernel
theorem dX6_extreme_48 : decode cX6_extreme 48 = .ok (.iconst 4, 1) := by decide +kernel
theorem dX6_extreme_49 : decode cX6_extreme 49 = .ok (.goto 5, 3) := by decide +kernel
theorem dX6_extreme_52 : decode cX6_extreme 52 = .ok (.bipush 6, 2) := by decide +kernel
theorem dX6_extreme_54 : decode cX6_extreme 54 = .ok (.istore 6, 2) := by decide +kernel
theorem dX6_extreme_56 : decode cX6_extreme 56 = .ok (.aload_n 0, 1) := by decide +kernel
theorem dX6_extreme_57 : decode cX6_extreme 57 = .ok (.getfield 12, 3) := by decide +kernel
theorem dX6_extreme_60 : decode cX6_extreme 60 = .ok (.getfield 80, 3) := by decide +kernel
theorem dX6_extreme_63 : decode cX6_extreme 63 = .ok (.iload 4, 2) := by decide +kernel
theorem dX6_extreme_65 : decode cX6_extreme 65 = .ok (.invokevirtual 61, 3) := by decide +kernel
theorem dX6_extreme_68 : decode cX6_extreme 68 = .ok (.istore 7, 2) := by decide +kernel
theorem dX6_extreme_70 : decode cX6_extreme 70 = .ok (.iconst 1, 1) := by decide +kernel
theorem dX6_extreme_71 : decode cX6_extreme 71 = .ok (.istore 8, 2) := by decide +kernel
theorem dX6_extreme_73 : decode cX6_extreme 73 = .ok (.iload 8, 2) := by decide +kernel
theorem dX6_extreme_75 : decode cX6_extreme 75 = .ok (.iload 6, 2) := by decide +kernel
theorem dX6_extreme_77 : decode cX6_extreme 77 = .ok (.if_icmp .ge 52, 3) := by decide +kernel
theorem dX6_extreme_80 : decode cX6_extreme 80 = .ok (.aload_n 0, 1) := by decide +kernel
theorem dX6_extreme_81 : decode cX6_extreme 81 = .ok (.getfield 12, 3) := by decide +kernel
theorem dX6_extreme_84 : decode cX6_extreme 84 = .ok (.getfield 80, 3) := by decide +kernel
theorem dX6_extreme_87 : decode cX6_extreme 87 = .ok (.iload 4, 2) := by decide +kernel
theorem dX6_extreme_89 : decode cX6_extreme 89 = .ok (.iload 8, 2) := by decide +kernel
theorem dX6_extreme_91 : decode cX6_extreme 91 = .ok (.iload 5, 2) := by decide +kernel
theorem dX6_extreme_93 : decode cX6_extreme 93 = .ok (.imul, 1) := by decide +kernel
theorem dX6_extreme_94 : decode cX6_extreme 94 = .ok (.iadd, 1) := by decide +kernel
theorem dX6_extreme_95 : decode cX6_extreme 95 = .ok (.invokevirtual 61, 3) := by decide +kernel
theorem dX6_extreme_98 : decode cX6_extreme 98 = .ok (.istore 9, 2) := by decide +kernel
theorem dX6_extreme_100 : decode cX6_extreme 100 = .ok (.iload_n 3, 1) := by decide +kernel
theorem dX6_extreme_101 : decode cX6_extreme 101 = .ok (.ifCond .eq 13, 3) := by decide +kernel
theorem dX6_extreme_104 : decode cX6_extreme 104 = .ok (.iload 7, 2) := by decide +kernel
theorem dX6_extreme_106 : decode cX6_extreme 106 = .ok (.iload 9, 2) := by decide +kernel
theorem dX6_extreme_108 : decode cX6_extreme 108 = .ok (.invokestatic 150, 3) := by decide +kernel
theorem dX6_extreme_111 : decode cX6_extreme 111 = .ok (.goto 10, 3) := by decide +kernel
theorem dX6_extreme_114 : decode cX6_extreme 114 = .ok (.iload 7, 2) := by decide +kernel
theorem dX6_extreme_116 : decode cX6_extreme 116 = .ok (.iload 9, 2) := by decide +kernel
theorem dX6_extreme_118 : decode cX6_extreme 118 = .ok (.invokestatic 155, 3) := by decide +kernel
theorem dX6_extreme_121 : decode cX6_extreme 121 = .ok (.istore 7, 2) := by decide +kernel
theorem dX6_extreme_123 : decode cX6_extreme 123 = .ok (.iinc 8 1, 3) := by decide +kernel
theorem dX6_extreme_126 : decode cX6_extreme 126 = .ok (.goto (-53), 3) := by decide +kernel
theorem dX6_extreme_129 : decode cX6_extreme 129 = .ok (.iload 7, 2) := by decide +kernel
theorem dX6_extreme_131 : decode cX6_extreme 131 = .ok (.ireturn, 1) := by decide +kernel
theorem dX6_events_0 : decode cX6_events 0 = .ok (.aload_n 0, 1) := by decide +kernel
theorem dX6_events_1 : decode cX6_events 1 = .ok (.getfield 12, 3) := by decide +kernel
theorem dX6_events_4 : decode cX6_events 4 = .ok (.getfield 158, 3) := by decide +kernel
theorem dX6_events_7 : decode cX6_events 7 = .ok (.invokevirtual 162, 3) := by decide +kernel
theorem dX6_events_10 : decode cX6_events 10 = .ok (.ireturn, 1) := by decide +kernel
theorem dX6_event_0 : decode cX6_event 0 = .ok (.iload_n 1, 1) := by decide +kernel
theorem dX6_event_1 : decode cX6_event 1 = .ok (.iconst 0, 1) := by decide +kernel
