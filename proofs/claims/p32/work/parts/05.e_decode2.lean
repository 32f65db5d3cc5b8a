theorem dX6_event_2 : decode cX6_event 2 = .ok (.aload_n 0, 1) := by decide +kernel
theorem dX6_event_3 : decode cX6_event 3 = .ok (.getfield 12, 3) := by decide +kernel
theorem dX6_event_6 : decode cX6_event 6 = .ok (.getfield 158, 3) := by decide +kernel
theorem dX6_event_9 : decode cX6_event 9 = .ok (.invokevirtual 162, 3) := by decide +kernel
theorem dX6_event_12 : decode cX6_event 12 = .ok (.iconst 1, 1) := by decide +kernel
theorem dX6_event_13 : decode cX6_event 13 = .ok (.isub, 1) := by decide +kernel
theorem dX6_event_14 : decode cX6_event 14 = .ok (.invokestatic 33, 3) := by decide +kernel
theorem dX6_event_17 : decode cX6_event 17 = .ok (.invokestatic 77, 3) := by decide +kernel
theorem dX6_event_20 : decode cX6_event 20 = .ok (.iload_n 2, 1) := by decide +kernel
theorem dX6_event_21 : decode cX6_event 21 = .ok (.iconst 0, 1) := by decide +kernel
theorem dX6_event_22 : decode cX6_event 22 = .ok (.iconst 2, 1) := by decide +kernel
theorem dX6_event_23 : decode cX6_event 23 = .ok (.invokestatic 33, 3) := by decide +kernel
theorem dX6_event_26 : decode cX6_event 26 = .ok (.invokestatic 37, 3) := by decide +kernel
theorem dX6_event_29 : decode cX6_event 29 = .ok (.aload_n 0, 1) := by decide +kernel
theorem dX6_event_30 : decode cX6_event 30 = .ok (.getfield 12, 3) := by decide +kernel
theorem dX6_event_33 : decode cX6_event 33 = .ok (.getfield 158, 3) := by decide +kernel
theorem dX6_event_36 : decode cX6_event 36 = .ok (.iload_n 1, 1) := by decide +kernel
theorem dX6_event_37 : decode cX6_event 37 = .ok (.iload_n 2, 1) := by decide +kernel
theorem dX6_event_38 : decode cX6_event 38 = .ok (.invokevirtual 167, 3) := by decide +kernel
theorem dX6_event_41 : decode cX6_event 41 = .ok (.ireturn, 1) := by decide +kernel
theorem dX6_eventsOf_0 : decode cX6_eventsOf 0 = .ok (.iload_n 1, 1) := by decide +kernel
theorem dX6_eventsOf_1 : decode cX6_eventsOf 1 = .ok (.iconst 0, 1) := by decide +kernel
theorem dX6_eventsOf_2 : decode cX6_eventsOf 2 = .ok (.iconst 4, 1) := by decide +kernel
theorem dX6_eventsOf_3 : decode cX6_eventsOf 3 = .ok (.invokestatic 33, 3) := by decide +kernel
theorem dX6_eventsOf_6 : decode cX6_eventsOf 6 = .ok (.invokestatic 37, 3) := by decide +kernel
theorem dX6_eventsOf_9 : decode cX6_eventsOf 9 = .ok (.iconst 0, 1) := by decide +kernel
theorem dX6_eventsOf_10 : decode cX6_eventsOf 10 = .ok (.istore_n 2, 1) := by decide +kernel
theorem dX6_eventsOf_11 : decode cX6_eventsOf 11 = .ok (.iconst 0, 1) := by decide +kernel
theorem dX6_eventsOf_12 : decode cX6_eventsOf 12 = .ok (.istore_n 3, 1) := by decide +kernel
theorem dX6_eventsOf_13 : decode cX6_eventsOf 13 = .ok (.iload_n 3, 1) := by decide +kernel
theorem dX6_eventsOf_14 : decode cX6_eventsOf 14 = .ok (.aload_n 0, 1) := by decide +kernel
theorem dX6_eventsOf_15 : decode cX6_eventsOf 15 = .ok (.getfield 12, 3) := by decide +kernel
theorem dX6_eventsOf_18 : decode cX6_eventsOf 18 = .ok (.getfield 158, 3) := by decide +kernel
theorem dX6_eventsOf_21 : decode cX6_eventsOf 21 = .ok (.invokevirtual 162, 3) := by decide +kernel
theorem dX6_eventsOf_24 : decode cX6_eventsOf 24 = .ok (.if_icmp .ge 28, 3) := by decide +kernel
theorem dX6_eventsOf_27 : decode cX6_eventsOf 27 = .ok (.aload_n 0, 1) := by decide +kernel
theorem dX6_eventsOf_28 : decode cX6_eventsOf 28 = .ok (.getfield 12, 3) := by decide +kernel
theorem dX6_eventsOf_31 : decode cX6_eventsOf 31 = .ok (.getfield 158, 3) := by decide +kernel
theorem dX6_eventsOf_34 : decode cX6_eventsOf 34 = .ok (.iload_n 3, 1) := by decide +kernel
theorem dX6_eventsOf_35 : decode cX6_eventsOf 35 = .ok (.iconst 0, 1) := by decide +kernel
theorem dX6_eventsOf_36 : decode cX6_eventsOf 36 = .ok (.invokevirtual 167, 3) := by decide +kernel
theorem dX6_eventsOf_39 : decode cX6_eventsOf 39 = .ok (.iload_n 1, 1) := by decide +kernel
theorem dX6_eventsOf_40 : decode cX6_eventsOf 40 = .ok (.if_icmp .ne 6, 3) := by decide +kernel
theorem dX6_eventsOf_43 : decode cX6_eventsOf 43 = .ok (.iinc 2 1, 3) := by decide +kernel
theorem dX6_eventsOf_46 : decode cX6_eventsOf 46 = .ok (.iinc 3 1, 3) := by decide +kernel
theorem dX6_eventsOf_49 : decode cX6_eventsOf 49 = .ok (.goto (-36), 3) := by decide +kernel
theorem dX6_eventsOf_52 : decode cX6_eventsOf 52 = .ok (.iload_n 2, 1) := by decide +kernel
theorem dX6_eventsOf_53 : decode cX6_eventsOf 53 = .ok (.ireturn, 1) := by decide +kernel
theorem dX6_limit_0 : decode cX6_limit 0 = .ok (.iload_n 1, 1) := by decide +kernel
theorem dX6_limit_1 : decode cX6_limit 1 = .ok (.iconst (-1), 1) := by decide +kernel
theorem dX6_limit_2 : decode cX6_limit 2 = .ok (.if_icmp .eq 11, 3) := by decide +kernel
theorem dX6_limit_5 : decode cX6_limit 5 = .ok (.aload_n 0, 1) := by decide +kernel
theorem dX6_limit_6 : decode cX6_limit 6 = .ok (.iload_n 1, 1) := by decide +kernel
theorem dX6_limit_7 : decode cX6_limit 7 = .ok (.invokevirtual 107, 3) := by decide +kernel
theorem dX6_limit_10 : decode cX6_limit 10 = .ok (.ifCond .eq 7, 3) := by decide +kernel
theorem dX6_limit_13 : decode cX6_limit 13 = .ok (.iconst 1, 1) := by decide +kernel
theorem dX6_limit_14 : decode cX6_limit 14 = .ok (.goto 4, 3) := by decide +kernel
theorem dX6_limit_17 : decode cX6_limit 17 = .ok (.iconst 0, 1) := by decide +kernel
theorem dX6_limit_18 : decode cX6_limit 18 = .ok (.invokestatic 77, 3) := by decide +kernel
theorem dX6_limit_21 : decode cX6_limit 21 = .ok (.iload_n 2, 1) := by decide +kernel
theorem dX6_limit_22 : decode cX6_limit 22 = .ok (.iload_n 3, 1) := by decide +kernel
theorem dX6_limit_23 : decode cX6_limit 23 = .ok (.iload 4, 2) := by decide +kernel
theorem dX6_limit_25 : decode cX6_limit 25 = .ok (.invokestatic 98, 3) := by decide +kernel
theorem dX6_limit_28 : decode cX6_limit 28 = .ok (.invokestatic 37, 3) := by decide +kernel
theorem dX6_limit_31 : decode cX6_limit 31 = .ok (.iload_n 2, 1) := by decide +kernel
theorem dX6_limit_32 : decode cX6_limit 32 = .ok (.iload_n 3, 1) := by decide +kernel
theorem dX6_limit_33 : decode cX6_limit 33 = .ok (.iload 4, 2) := by decide +kernel
theorem dX6_limit_35 : decode cX6_limit 35 = .ok (.invokestatic 170, 3) := by decide +kernel
theorem dX6_limit_38 : decode cX6_limit 38 = .ok (.istore 5, 2) := by decide +kernel
theorem dX6_limit_40 : decode cX6_limit 40 = .ok (.iload_n 1, 1) := by decide +kernel
theorem dX6_limit_41 : decode cX6_limit 41 = .ok (.iconst (-1), 1) := by decide +kernel
theorem dX6_limit_42 : decode cX6_limit 42 = .ok (.if_icmp .ne 6, 3) := by decide +kernel
theorem dX6_limit_45 : decode cX6_limit 45 = .ok (.iload 5, 2) := by decide +kernel
theorem dX6_limit_47 : decode cX6_limit 47 = .ok (.ireturn, 1) := by decide +kernel
theorem dX6_limit_48 : decode cX6_limit 48 = .ok (.aload_n 0, 1) := by decide +kernel
theorem dX6_limit_49 : decode cX6_limit 49 = .ok (.getfield 12, 3) := by decide +kernel
theorem dX6_limit_52 : decode cX6_limit 52 = .ok (.iload_n 1, 1) := by decide +kernel
theorem dX6_limit_53 : decode cX6_limit 53 = .ok (.iload_n 2, 1) := by decide +kernel
theorem dX6_limit_54 : decode cX6_limit 54 = .ok (.iload_n 3, 1) := by decide +kernel
theorem dX6_limit_55 : decode cX6_limit 55 = .ok (.invokevirtual 118, 3) := by decide +kernel
theorem dX6_limit_58 : decode cX6_limit 58 = .ok (.iload 5, 2) := by decide +kernel
theorem dX6_limit_60 : decode cX6_limit 60 = .ok (.isub, 1) := by decide +kernel
theorem dX6_limit_61 : decode cX6_limit 61 = .ok (.ireturn, 1) := by decide +kernel
theorem dX6_quietAfter_0 : decode cX6_quietAfter 0 = .ok (.iload_n 1, 1) := by decide +kernel
theorem dX6_quietAfter_1 : decode cX6_quietAfter 1 = .ok (.iload_n 2, 1) := by decide +kernel
theorem dX6_quietAfter_2 : decode cX6_quietAfter 2 = .ok (.iload_n 3, 1) := by decide +kernel
theorem dX6_quietAfter_3 : decode cX6_quietAfter 3 = .ok (.invokestatic 98, 3) := by decide +kernel
theorem dX6_quietAfter_6 : decode cX6_quietAfter 6 = .ok (.invokestatic 37, 3) := by decide +kernel
theorem dX6_quietAfter_9 : decode cX6_quietAfter 9 = .ok (.aload_n 0, 1) := by decide +kernel
theorem dX6_quietAfter_10 : decode cX6_quietAfter 10 = .ok (.getfield 16, 3) := by decide +kernel
theorem dX6_quietAfter_13 : decode cX6_quietAfter 13 = .ok (.aload_n 0, 1) := by decide +kernel
theorem dX6_quietAfter_14 : decode cX6_quietAfter 14 = .ok (.getfield 12, 3) := by decide +kernel
theorem dX6_quietAfter_17 : decode cX6_quietAfter 17 = .ok (.invokevirtual 173, 3) := by decide +kernel
theorem dX6_quietAfter_20 : decode cX6_quietAfter 20 = .ok (.iconst 5, 1) := by decide +kernel
theorem dX6_quietAfter_21 : decode cX6_quietAfter 21 = .ok (.aload_n 0, 1) := by decide +kernel
theorem dX6_quietAfter_22 : decode cX6_quietAfter 22 = .ok (.getfield 12, 3) := by decide +kernel
theorem dX6_quietAfter_25 : decode cX6_quietAfter 25 = .ok (.getfield 176, 3) := by decide +kernel
theorem dX6_quietAfter_28 : decode cX6_quietAfter 28 = .ok (.imul, 1) := by decide +kernel
theorem dX6_quietAfter_29 : decode cX6_quietAfter 29 = .ok (.istore 4, 2) := by decide +kernel
theorem dX6_quietAfter_31 : decode cX6_quietAfter 31 = .ok (.iconst 0, 1) := by decide +kernel
theorem dX6_quietAfter_32 : decode cX6_quietAfter 32 = .ok (.istore 5, 2) := by decide +kernel
theorem dX6_quietAfter_34 : decode cX6_quietAfter 34 = .ok (.iconst 1, 1) := by decide +kernel
theorem dX6_quietAfter_35 : decode cX6_quietAfter 35 = .ok (.istore 6, 2) := by decide +kernel
theorem dX6_quietAfter_37 : decode cX6_quietAfter 37 = .ok (.iload 6, 2) := by decide +kernel
theorem dX6_quietAfter_39 : decode cX6_quietAfter 39 = .ok (.sipush 1000, 3) := by decide +kernel
theorem dX6_quietAfter_42 : decode cX6_quietAfter 42 = .ok (.if_icmp .gt 43, 3) := by decide +kernel
theorem dX6_quietAfter_45 : decode cX6_quietAfter 45 = .ok (.aload_n 0, 1) := by decide +kernel
theorem dX6_quietAfter_46 : decode cX6_quietAfter 46 = .ok (.getfield 16, 3) := by decide +kernel
theorem dX6_quietAfter_49 : decode cX6_quietAfter 49 = .ok (.iload_n 1, 1) := by decide +kernel
theorem dX6_quietAfter_50 : decode cX6_quietAfter 50 = .ok (.iload_n 2, 1) := by decide +kernel
theorem dX6_quietAfter_51 : decode cX6_quietAfter 51 = .ok (.iload_n 3, 1) := by decide +kernel
theorem dX6_quietAfter_52 : decode cX6_quietAfter 52 = .ok (.invokevirtual 101, 3) := by decide +kernel
theorem dX6_quietAfter_55 : decode cX6_quietAfter 55 = .ok (.iconst 1, 1) := by decide +kernel
theorem dX6_quietAfter_56 : decode cX6_quietAfter 56 = .ok (.if_icmp .ne 7, 3) := by decide +kernel
theorem dX6_quietAfter_59 : decode cX6_quietAfter 59 = .ok (.iconst 0, 1) := by decide +kernel
theorem dX6_quietAfter_60 : decode cX6_quietAfter 60 = .ok (.goto 7, 3) := by decide +kernel
theorem dX6_quietAfter_63 : decode cX6_quietAfter 63 = .ok (.iload 5, 2) := by decide +kernel
theorem dX6_quietAfter_65 : decode cX6_quietAfter 65 = .ok (.iconst 1, 1) := by decide +kernel
theorem dX6_quietAfter_66 : decode cX6_quietAfter 66 = .ok (.iadd, 1) := by decide +kernel
theorem dX6_quietAfter_67 : decode cX6_quietAfter 67 = .ok (.istore 5, 2) := by decide +kernel
theorem dX6_quietAfter_69 : decode cX6_quietAfter 69 = .ok (.iload 5, 2) := by decide +kernel
theorem dX6_quietAfter_71 : decode cX6_quietAfter 71 = .ok (.iload 4, 2) := by decide +kernel
theorem dX6_quietAfter_73 : decode cX6_quietAfter 73 = .ok (.if_icmp .lt 6, 3) := by decide +kernel
theorem dX6_quietAfter_76 : decode cX6_quietAfter 76 = .ok (.iload 6, 2) := by decide +kernel
theorem dX6_quietAfter_78 : decode cX6_quietAfter 78 = .ok (.ireturn, 1) := by decide +kernel
theorem dX6_quietAfter_79 : decode cX6_quietAfter 79 = .ok (.iinc 6 1, 3) := by decide +kernel
theorem dX6_quietAfter_82 : decode cX6_quietAfter 82 = .ok (.goto (-45), 3) := by decide +kernel
theorem dX6_quietAfter_85 : decode cX6_quietAfter 85 = .ok (.iconst (-1), 1) := by decide +kernel
theorem dX6_quietAfter_86 : decode cX6_quietAfter 86 = .ok (.ireturn, 1) := by decide +kernel
theorem dX6_lowestOctane_0 : decode cX6_lowestOctane 0 = .ok (.iload_n 1, 1) := by decide +kernel
theorem dX6_lowestOctane_1 : decode cX6_lowestOctane 1 = .ok (.iload_n 2, 1) := by decide +kernel
theorem dX6_lowestOctane_2 : decode cX6_lowestOctane 2 = .ok (.invokestatic 115, 3) := by decide +kernel
theorem dX6_lowestOctane_5 : decode cX6_lowestOctane 5 = .ok (.ifCond .eq 17, 3) := by decide +kernel
theorem dX6_lowestOctane_8 : decode cX6_lowestOctane 8 = .ok (.iload_n 3, 1) := by decide +kernel
theorem dX6_lowestOctane_9 : decode cX6_lowestOctane 9 = .ok (.iconst 1, 1) := by decide +kernel
theorem dX6_lowestOctane_10 : decode cX6_lowestOctane 10 = .ok (.bipush 100, 2) := by decide +kernel
theorem dX6_lowestOctane_12 : decode cX6_lowestOctane 12 = .ok (.invokestatic 33, 3) := by decide +kernel
theorem dX6_lowestOctane_15 : decode cX6_lowestOctane 15 = .ok (.ifCond .eq 7, 3) := by decide +kernel
theorem dX6_lowestOctane_18 : decode cX6_lowestOctane 18 = .ok (.iconst 1, 1) := by decide +kernel
theorem dX6_lowestOctane_19 : decode cX6_lowestOctane 19 = .ok (.goto 4, 3) := by decide +kernel
theorem dX6_lowestOctane_22 : decode cX6_lowestOctane 22 = .ok (.iconst 0, 1) := by decide +kernel
theorem dX6_lowestOctane_23 : decode cX6_lowestOctane 23 = .ok (.invokestatic 37, 3) := by decide +kernel
theorem dX6_lowestOctane_26 : decode cX6_lowestOctane 26 = .ok (.bipush 80, 2) := by decide +kernel
theorem dX6_lowestOctane_28 : decode cX6_lowestOctane 28 = .ok (.istore 4, 2) := by decide +kernel
theorem dX6_lowestOctane_30 : decode cX6_lowestOctane 30 = .ok (.iload 4, 2) := by decide +kernel
theorem dX6_lowestOctane_32 : decode cX6_lowestOctane 32 = .ok (.bipush 110, 2) := by decide +kernel
theorem dX6_lowestOctane_34 : decode cX6_lowestOctane 34 = .ok (.if_icmp .gt 24, 3) := by decide +kernel
theorem dX6_lowestOctane_37 : decode cX6_lowestOctane 37 = .ok (.aload_n 0, 1) := by decide +kernel
theorem dX6_lowestOctane_38 : decode cX6_lowestOctane 38 = .ok (.iload_n 1, 1) := by decide +kernel
theorem dX6_lowestOctane_39 : decode cX6_lowestOctane 39 = .ok (.iload_n 2, 1) := by decide +kernel
theorem dX6_lowestOctane_40 : decode cX6_lowestOctane 40 = .ok (.iload 4, 2) := by decide +kernel
theorem dX6_lowestOctane_42 : decode cX6_lowestOctane 42 = .ok (.iload_n 3, 1) := by decide +kernel
theorem dX6_lowestOctane_43 : decode cX6_lowestOctane 43 = .ok (.invokevirtual 179, 3) := by decide +kernel
theorem dX6_lowestOctane_46 : decode cX6_lowestOctane 46 = .ok (.ifCond .eq 6, 3) := by decide +kernel
theorem dX6_lowestOctane_49 : decode cX6_lowestOctane 49 = .ok (.iload 4, 2) := by decide +kernel
theorem dX6_lowestOctane_51 : decode cX6_lowestOctane 51 = .ok (.ireturn, 1) := by decide +kernel
theorem dX6_lowestOctane_52 : decode cX6_lowestOctane 52 = .ok (.iinc 4 1, 3) := by decide +kernel
theorem dX6_lowestOctane_55 : decode cX6_lowestOctane 55 = .ok (.goto (-25), 3) := by decide +kernel
theorem dX6_lowestOctane_58 : decode cX6_lowestOctane 58 = .ok (.iconst (-1), 1) := by decide +kernel
theorem dX6_lowestOctane_59 : decode cX6_lowestOctane 59 = .ok (.ireturn, 1) := by decide +kernel
theorem dX6_staysQuiet_0 : decode cX6_staysQuiet 0 = .ok (.aload_n 0, 1) := by decide +kernel
theorem dX6_staysQuiet_1 : decode cX6_staysQuiet 1 = .ok (.getfield 16, 3) := by decide +kernel
theorem dX6_staysQuiet_4 : decode cX6_staysQuiet 4 = .ok (.aload_n 0, 1) := by decide +kernel
theorem dX6_staysQuiet_5 : decode cX6_staysQuiet 5 = .ok (.getfield 12, 3) := by decide +kernel
theorem dX6_staysQuiet_8 : decode cX6_staysQuiet 8 = .ok (.invokevirtual 173, 3) := by decide +kernel
theorem dX6_staysQuiet_11 : decode cX6_staysQuiet 11 = .ok (.iconst 0, 1) := by decide +kernel
theorem dX6_staysQuiet_12 : decode cX6_staysQuiet 12 = .ok (.istore 5, 2) := by decide +kernel
theorem dX6_staysQuiet_14 : decode cX6_staysQuiet 14 = .ok (.iload 5, 2) := by decide +kernel
theorem dX6_staysQuiet_16 : decode cX6_staysQuiet 16 = .ok (.iload 4, 2) := by decide +kernel
theorem dX6_staysQuiet_18 : decode cX6_staysQuiet 18 = .ok (.if_icmp .ge 25, 3) := by decide +kernel
theorem dX6_staysQuiet_21 : decode cX6_staysQuiet 21 = .ok (.aload_n 0, 1) := by decide +kernel
theorem dX6_staysQuiet_22 : decode cX6_staysQuiet 22 = .ok (.getfield 16, 3) := by decide +kernel
theorem dX6_staysQuiet_25 : decode cX6_staysQuiet 25 = .ok (.iload_n 1, 1) := by decide +kernel
theorem dX6_staysQuiet_26 : decode cX6_staysQuiet 26 = .ok (.iload_n 2, 1) := by decide +kernel
theorem dX6_staysQuiet_27 : decode cX6_staysQuiet 27 = .ok (.iload_n 3, 1) := by decide +kernel
theorem dX6_staysQuiet_28 : decode cX6_staysQuiet 28 = .ok (.invokevirtual 101, 3) := by decide +kernel
theorem dX6_staysQuiet_31 : decode cX6_staysQuiet 31 = .ok (.iconst 1, 1) := by decide +kernel
theorem dX6_staysQuiet_32 : decode cX6_staysQuiet 32 = .ok (.if_icmp .ne 5, 3) := by decide +kernel
theorem dX6_staysQuiet_35 : decode cX6_staysQuiet 35 = .ok (.iconst 0, 1) := by decide +kernel
theorem dX6_staysQuiet_36 : decode cX6_staysQuiet 36 = .ok (.ireturn, 1) := by decide +kernel
theorem dX6_staysQuiet_37 : decode cX6_staysQuiet 37 = .ok (.iinc 5 1, 3) := by decide +kernel
theorem dX6_staysQuiet_40 : decode cX6_staysQuiet 40 = .ok (.goto (-26), 3) := by decide +kernel
theorem dX6_staysQuiet_43 : decode cX6_staysQuiet 43 = .ok (.iconst 1, 1) := by decide +kernel
theorem dX6_staysQuiet_44 : decode cX6_staysQuiet 44 = .ok (.ireturn, 1) := by decide +kernel
theorem dX6_append_0 : decode cX6_append 0 = .ok (.iload_n 1, 1) := by decide +kernel
theorem dX6_append_1 : decode cX6_append 1 = .ok (.iconst 0, 1) := by decide +kernel
theorem dX6_append_2 : decode cX6_append 2 = .ok (.bipush 127, 2) := by decide +kernel
theorem dX6_append_4 : decode cX6_append 4 = .ok (.invokestatic 33, 3) := by decide +kernel
theorem dX6_append_7 : decode cX6_append 7 = .ok (.invokestatic 37, 3) := by decide +kernel
theorem dX6_append_10 : decode cX6_append 10 = .ok (.aload_n 0, 1) := by decide +kernel
theorem dX6_append_11 : decode cX6_append 11 = .ok (.getfield 29, 3) := by decide +kernel
theorem dX6_append_14 : decode cX6_append 14 = .ok (.invokevirtual 183, 3) := by decide +kernel
theorem dX6_append_17 : decode cX6_append 17 = .ok (.bipush 120, 2) := by decide +kernel
theorem dX6_append_19 : decode cX6_append 19 = .ok (.if_icmp .ge 7, 3) := by decide +kernel
theorem dX6_append_22 : decode cX6_append 22 = .ok (.iconst 1, 1) := by decide +kernel
theorem dX6_append_23 : decode cX6_append 23 = .ok (.goto 4, 3) := by decide +kernel
theorem dX6_append_26 : decode cX6_append 26 = .ok (.iconst 0, 1) := by decide +kernel
theorem dX6_append_27 : decode cX6_append 27 = .ok (.invokestatic 184, 3) := by decide +kernel
theorem dX6_append_30 : decode cX6_append 30 = .ok (.aload_n 0, 1) := by decide +kernel
theorem dX6_append_31 : decode cX6_append 31 = .ok (.getfield 29, 3) := by decide +kernel
theorem dX6_append_34 : decode cX6_append 34 = .ok (.iload_n 1, 1) := by decide +kernel
theorem dX6_append_35 : decode cX6_append 35 = .ok (.invokevirtual 187, 3) := by decide +kernel
theorem dX6_append_38 : decode cX6_append 38 = .ok (.aload_n 0, 1) := by decide +kernel
theorem dX6_append_39 : decode cX6_append 39 = .ok (.getfield 29, 3) := by decide +kernel
theorem dX6_append_42 : decode cX6_append 42 = .ok (.invokevirtual 183, 3) := by decide +kernel
theorem dX6_append_45 : decode cX6_append 45 = .ok (.ireturn, 1) := by decide +kernel
theorem dX6_undo_0 : decode cX6_undo 0 = .ok (.aload_n 0, 1) := by decide +kernel
theorem dX6_undo_1 : decode cX6_undo 1 = .ok (.getfield 22, 3) := by decide +kernel
theorem dX6_undo_4 : decode cX6_undo 4 = .ok (.invokevirtual 205, 3) := by decide +kernel
theorem dX6_undo_7 : decode cX6_undo 7 = .ok (.ifCond .le 7, 3) := by decide +kernel
theorem dX6_undo_10 : decode cX6_undo 10 = .ok (.iconst 1, 1) := by decide +kernel
theorem dX6_undo_11 : decode cX6_undo 11 = .ok (.goto 4, 3) := by decide +kernel
theorem dX6_undo_14 : decode cX6_undo 14 = .ok (.iconst 0, 1) := by decide +kernel
theorem dX6_undo_15 : decode cX6_undo 15 = .ok (.invokestatic 184, 3) := by decide +kernel
theorem dX6_undo_18 : decode cX6_undo 18 = .ok (.aload_n 0, 1) := by decide +kernel
theorem dX6_undo_19 : decode cX6_undo 19 = .ok (.getfield 22, 3) := by decide +kernel
theorem dX6_undo_22 : decode cX6_undo 22 = .ok (.aload_n 0, 1) := by decide +kernel
theorem dX6_undo_23 : decode cX6_undo 23 = .ok (.getfield 12, 3) := by decide +kernel
theorem dX6_undo_26 : decode cX6_undo 26 = .ok (.invokevirtual 206, 3) := by decide +kernel
theorem dX6_undo_29 : decode cX6_undo 29 = .ok (.aload_n 0, 1) := by decide +kernel
theorem dX6_undo_30 : decode cX6_undo 30 = .ok (.getfield 22, 3) := by decide +kernel
theorem dX6_undo_33 : decode cX6_undo 33 = .ok (.invokevirtual 205, 3) := by decide +kernel
theorem dX6_undo_36 : decode cX6_undo 36 = .ok (.ireturn, 1) := by decide +kernel
theorem dX6_bitsOfShare_0 : decode cX6_bitsOfShare 0 = .ok (.fload_n 0, 1) := by decide +kernel
theorem dX6_bitsOfShare_1 : decode cX6_bitsOfShare 1 = .ok (.fconst 0, 1) := by decide +kernel
theorem dX6_bitsOfShare_2 : decode cX6_bitsOfShare 2 = .ok (.fcmp .l, 1) := by decide +kernel
theorem dX6_bitsOfShare_3 : decode cX6_bitsOfShare 3 = .ok (.ifCond .gt 5, 3) := by decide +kernel
theorem dX6_bitsOfShare_6 : decode cX6_bitsOfShare 6 = .ok (.iconst 0, 1) := by decide +kernel
theorem dX6_bitsOfShare_7 : decode cX6_bitsOfShare 7 = .ok (.ireturn, 1) := by decide +kernel
theorem dX6_bitsOfShare_8 : decode cX6_bitsOfShare 8 = .ok (.fload_n 0, 1) := by decide +kernel
theorem dX6_bitsOfShare_9 : decode cX6_bitsOfShare 9 = .ok (.fstore_n 1, 1) := by decide +kernel
theorem dX6_bitsOfShare_10 : decode cX6_bitsOfShare 10 = .ok (.bipush 127, 2) := by decide +kernel
theorem dX6_bitsOfShare_12 : decode cX6_bitsOfShare 12 = .ok (.istore_n 2, 1) := by decide +kernel
theorem dX6_bitsOfShare_13 : decode cX6_bitsOfShare 13 = .ok (.fload_n 1, 1) := by decide +kernel
theorem dX6_bitsOfShare_14 : decode cX6_bitsOfShare 14 = .ok (.fconst 1, 1) := by decide +kernel
theorem dX6_bitsOfShare_15 : decode cX6_bitsOfShare 15 = .ok (.fcmp .g, 1) := by decide +kernel
theorem dX6_bitsOfShare_16 : decode cX6_bitsOfShare 16 = .ok (.ifCond .ge 18, 3) := by decide +kernel
theorem dX6_bitsOfShare_19 : decode cX6_bitsOfShare 19 = .ok (.iload_n 2, 1) := by decide +kernel
theorem dX6_bitsOfShare_20 : decode cX6_bitsOfShare 20 = .ok (.iconst 1, 1) := by decide +kernel
theorem dX6_bitsOfShare_21 : decode cX6_bitsOfShare 21 = .ok (.if_icmp .le 13, 3) := by decide +kernel
theorem dX6_bitsOfShare_24 : decode cX6_bitsOfShare 24 = .ok (.fload_n 1, 1) := by decide +kernel
theorem dX6_bitsOfShare_25 : decode cX6_bitsOfShare 25 = .ok (.fconst 2, 1) := by decide +kernel
theorem dX6_bitsOfShare_26 : decode cX6_bitsOfShare 26 = .ok (.fmul, 1) := by decide +kernel
theorem dX6_bitsOfShare_27 : decode cX6_bitsOfShare 27 = .ok (.fstore_n 1, 1) := by decide +kernel
theorem dX6_bitsOfShare_28 : decode cX6_bitsOfShare 28 = .ok (.iinc 2 (-1), 3) := by decide +kernel
theorem dX6_bitsOfShare_31 : decode cX6_bitsOfShare 31 = .ok (.goto (-18), 3) := by decide +kernel
theorem dX6_bitsOfShare_34 : decode cX6_bitsOfShare 34 = .ok (.iload_n 2, 1) := by decide +kernel
theorem dX6_bitsOfShare_35 : decode cX6_bitsOfShare 35 = .ok (.ldc 217, 2) := by decide +kernel
theorem dX6_bitsOfShare_37 : decode cX6_bitsOfShare 37 = .ok (.imul, 1) := by decide +kernel
theorem dX6_bitsOfShare_38 : decode cX6_bitsOfShare 38 = .ok (.fload_n 1, 1) := by decide +kernel
theorem dX6_bitsOfShare_39 : decode cX6_bitsOfShare 39 = .ok (.fconst 1, 1) := by decide +kernel
theorem dX6_bitsOfShare_40 : decode cX6_bitsOfShare 40 = .ok (.fsub, 1) := by decide +kernel
theorem dX6_bitsOfShare_41 : decode cX6_bitsOfShare 41 = .ok (.ldc 218, 2) := by decide +kernel
theorem dX6_bitsOfShare_43 : decode cX6_bitsOfShare 43 = .ok (.fmul, 1) := by decide +kernel
theorem dX6_bitsOfShare_44 : decode cX6_bitsOfShare 44 = .ok (.f2i, 1) := by decide +kernel
theorem dX6_bitsOfShare_45 : decode cX6_bitsOfShare 45 = .ok (.iadd, 1) := by decide +kernel
theorem dX6_bitsOfShare_46 : decode cX6_bitsOfShare 46 = .ok (.ireturn, 1) := by decide +kernel
theorem dX6_within_0 : decode cX6_within 0 = .ok (.iload_n 0, 1) := by decide +kernel
theorem dX6_within_1 : decode cX6_within 1 = .ok (.iload_n 1, 1) := by decide +kernel
theorem dX6_within_2 : decode cX6_within 2 = .ok (.if_icmp .lt 12, 3) := by decide +kernel
theorem dX6_within_5 : decode cX6_within 5 = .ok (.iload_n 0, 1) := by decide +kernel
theorem dX6_within_6 : decode cX6_within 6 = .ok (.iload_n 2, 1) := by decide +kernel
theorem dX6_within_7 : decode cX6_within 7 = .ok (.if_icmp .gt 7, 3) := by decide +kernel
theorem dX6_within_10 : decode cX6_within 10 = .ok (.iconst 1, 1) := by decide +kernel
theorem dX6_within_11 : decode cX6_within 11 = .ok (.goto 4, 3) := by decide +kernel
theorem dX6_within_14 : decode cX6_within 14 = .ok (.iconst 0, 1) := by decide +kernel
theorem dX6_within_15 : decode cX6_within 15 = .ok (.ireturn, 1) := by decide +kernel
theorem dX6_isSetting_0 : decode cX6_isSetting 0 = .ok (.iload_n 0, 1) := by decide +kernel
theorem dX6_isSetting_1 : decode cX6_isSetting 1 = .ok (.ifCond .lt 40, 3) := by decide +kernel
theorem dX6_isSetting_4 : decode cX6_isSetting 4 = .ok (.iload_n 0, 1) := by decide +kernel
theorem dX6_isSetting_5 : decode cX6_isSetting 5 = .ok (.getstatic 219, 3) := by decide +kernel
theorem dX6_isSetting_8 : decode cX6_isSetting 8 = .ok (.arraylength, 1) := by decide +kernel
theorem dX6_isSetting_9 : decode cX6_isSetting 9 = .ok (.if_icmp .ge 32, 3) := by decide +kernel
theorem dX6_isSetting_12 : decode cX6_isSetting 12 = .ok (.iload_n 0, 1) := by decide +kernel
theorem dX6_isSetting_13 : decode cX6_isSetting 13 = .ok (.getstatic 223, 3) := by decide +kernel
theorem dX6_isSetting_16 : decode cX6_isSetting 16 = .ok (.arraylength, 1) := by decide +kernel
theorem dX6_isSetting_17 : decode cX6_isSetting 17 = .ok (.if_icmp .ge 24, 3) := by decide +kernel
theorem dX6_isSetting_20 : decode cX6_isSetting 20 = .ok (.iload_n 1, 1) := by decide +kernel
theorem dX6_isSetting_21 : decode cX6_isSetting 21 = .ok (.getstatic 219, 3) := by decide +kernel
theorem dX6_isSetting_24 : decode cX6_isSetting 24 = .ok (.iload_n 0, 1) := by decide +kernel
theorem dX6_isSetting_25 : decode cX6_isSetting 25 = .ok (.iaload, 1) := by decide +kernel
theorem dX6_isSetting_26 : decode cX6_isSetting 26 = .ok (.getstatic 223, 3) := by decide +kernel
theorem dX6_isSetting_29 : decode cX6_isSetting 29 = .ok (.iload_n 0, 1) := by decide +kernel
theorem dX6_isSetting_30 : decode cX6_isSetting 30 = .ok (.iaload, 1) := by decide +kernel
theorem dX6_isSetting_31 : decode cX6_isSetting 31 = .ok (.invokestatic 33, 3) := by decide +kernel
theorem dX6_isSetting_34 : decode cX6_isSetting 34 = .ok (.ifCond .eq 7, 3) := by decide +kernel
theorem dX6_isSetting_37 : decode cX6_isSetting 37 = .ok (.iconst 1, 1) := by decide +kernel
theorem dX6_isSetting_38 : decode cX6_isSetting 38 = .ok (.goto 4, 3) := by decide +kernel
theorem dX6_isSetting_41 : decode cX6_isSetting 41 = .ok (.iconst 0, 1) := by decide +kernel
theorem dX6_isSetting_42 : decode cX6_isSetting 42 = .ok (.ireturn, 1) := by decide +kernel
theorem dX6_isCell_0 : decode cX6_isCell 0 = .ok (.iload_n 0, 1) := by decide +kernel
theorem dX6_isCell_1 : decode cX6_isCell 1 = .ok (.iconst 0, 1) := by decide +kernel
theorem dX6_isCell_2 : decode cX6_isCell 2 = .ok (.iconst 5, 1) := by decide +kernel
theorem dX6_isCell_3 : decode cX6_isCell 3 = .ok (.invokestatic 33, 3) := by decide +kernel
theorem dX6_isCell_6 : decode cX6_isCell 6 = .ok (.ifCond .eq 16, 3) := by decide +kernel
theorem dX6_isCell_9 : decode cX6_isCell 9 = .ok (.iload_n 1, 1) := by decide +kernel
theorem dX6_isCell_10 : decode cX6_isCell 10 = .ok (.iconst 0, 1) := by decide +kernel
theorem dX6_isCell_11 : decode cX6_isCell 11 = .ok (.iconst 3, 1) := by decide +kernel
theorem dX6_isCell_12 : decode cX6_isCell 12 = .ok (.invokestatic 33, 3) := by decide +kernel
theorem dX6_isCell_15 : decode cX6_isCell 15 = .ok (.ifCond .eq 7, 3) := by decide +kernel
theorem dX6_isCell_18 : decode cX6_isCell 18 = .ok (.iconst 1, 1) := by decide +kernel
theorem dX6_isCell_19 : decode cX6_isCell 19 = .ok (.goto 4, 3) := by decide +kernel
theorem dX6_isCell_22 : decode cX6_isCell 22 = .ok (.iconst 0, 1) := by decide +kernel
theorem dX6_isCell_23 : decode cX6_isCell 23 = .ok (.ireturn, 1) := by decide +kernel
theorem dX6_isOperation_0 : decode cX6_isOperation 0 = .ok (.iload_n 0, 1) := by decide +kernel
theorem dX6_isOperation_1 : decode cX6_isOperation 1 = .ok (.sipush 500, 3) := by decide +kernel
theorem dX6_isOperation_4 : decode cX6_isOperation 4 = .ok (.sipush 7000, 3) := by decide +kernel
theorem dX6_isOperation_7 : decode cX6_isOperation 7 = .ok (.invokestatic 33, 3) := by decide +kernel
theorem dX6_isOperation_10 : decode cX6_isOperation 10 = .ok (.ifCond .eq 17, 3) := by decide +kernel
theorem dX6_isOperation_13 : decode cX6_isOperation 13 = .ok (.iload_n 1, 1) := by decide +kernel
theorem dX6_isOperation_14 : decode cX6_isOperation 14 = .ok (.iconst 0, 1) := by decide +kernel
theorem dX6_isOperation_15 : decode cX6_isOperation 15 = .ok (.bipush 100, 2) := by decide +kernel
theorem dX6_isOperation_17 : decode cX6_isOperation 17 = .ok (.invokestatic 33, 3) := by decide +kernel
theorem dX6_isOperation_20 : decode cX6_isOperation 20 = .ok (.ifCond .eq 7, 3) := by decide +kernel
theorem dX6_isOperation_23 : decode cX6_isOperation 23 = .ok (.iconst 1, 1) := by decide +kernel
theorem dX6_isOperation_24 : decode cX6_isOperation 24 = .ok (.goto 4, 3) := by decide +kernel
theorem dX6_isOperation_27 : decode cX6_isOperation 27 = .ok (.iconst 0, 1) := by decide +kernel
theorem dX6_isOperation_28 : decode cX6_isOperation 28 = .ok (.ireturn, 1) := by decide +kernel
theorem dX6_isFiring_0 : decode cX6_isFiring 0 = .ok (.iload_n 0, 1) := by decide +kernel
theorem dX6_isFiring_1 : decode cX6_isFiring 1 = .ok (.iload_n 1, 1) := by decide +kernel
theorem dX6_isFiring_2 : decode cX6_isFiring 2 = .ok (.invokestatic 115, 3) := by decide +kernel
theorem dX6_isFiring_5 : decode cX6_isFiring 5 = .ok (.ifCond .eq 18, 3) := by decide +kernel
theorem dX6_isFiring_8 : decode cX6_isFiring 8 = .ok (.iload_n 2, 1) := by decide +kernel
theorem dX6_isFiring_9 : decode cX6_isFiring 9 = .ok (.iconst 0, 1) := by decide +kernel
theorem dX6_isFiring_10 : decode cX6_isFiring 10 = .ok (.sipush 20000, 3) := by decide +kernel
theorem dX6_isFiring_13 : decode cX6_isFiring 13 = .ok (.invokestatic 33, 3) := by decide +kernel
theorem dX6_isFiring_16 : decode cX6_isFiring 16 = .ok (.ifCond .eq 7, 3) := by decide +kernel
theorem dX6_isFiring_19 : decode cX6_isFiring 19 = .ok (.iconst 1, 1) := by decide +kernel
theorem dX6_isFiring_20 : decode cX6_isFiring 20 = .ok (.goto 4, 3) := by decide +kernel
theorem dX6_isFiring_23 : decode cX6_isFiring 23 = .ok (.iconst 0, 1) := by decide +kernel
theorem dX6_isFiring_24 : decode cX6_isFiring 24 = .ok (.ireturn, 1) := by decide +kernel
theorem dX6_isDriving_0 : decode cX6_isDriving 0 = .ok (.iload_n 0, 1) := by decide +kernel
theorem dX6_isDriving_1 : decode cX6_isDriving 1 = .ok (.iload_n 1, 1) := by decide +kernel
theorem dX6_isDriving_2 : decode cX6_isDriving 2 = .ok (.invokestatic 115, 3) := by decide +kernel
theorem dX6_isDriving_5 : decode cX6_isDriving 5 = .ok (.ifCond .eq 18, 3) := by decide +kernel
theorem dX6_isDriving_8 : decode cX6_isDriving 8 = .ok (.iload_n 2, 1) := by decide +kernel
theorem dX6_isDriving_9 : decode cX6_isDriving 9 = .ok (.bipush 80, 2) := by decide +kernel
theorem dX6_isDriving_11 : decode cX6_isDriving 11 = .ok (.bipush 110, 2) := by decide +kernel
theorem dX6_isDriving_13 : decode cX6_isDriving 13 = .ok (.invokestatic 33, 3) := by decide +kernel
theorem dX6_isDriving_16 : decode cX6_isDriving 16 = .ok (.ifCond .eq 7, 3) := by decide +kernel
theorem dX6_isDriving_19 : decode cX6_isDriving 19 = .ok (.iconst 1, 1) := by decide +kernel
theorem dX6_isDriving_20 : decode cX6_isDriving 20 = .ok (.goto 4, 3) := by decide +kernel
theorem dX6_isDriving_23 : decode cX6_isDriving 23 = .ok (.iconst 0, 1) := by decide +kernel
theorem dX6_isDriving_24 : decode cX6_isDriving 24 = .ok (.ireturn, 1) := by decide +kernel
theorem dX6_isCylinder_0 : decode cX6_isCylinder 0 = .ok (.iload_n 1, 1) := by decide +kernel
theorem dX6_isCylinder_1 : decode cX6_isCylinder 1 = .ok (.iconst 0, 1) := by decide +kernel
theorem dX6_isCylinder_2 : decode cX6_isCylinder 2 = .ok (.aload_n 0, 1) := by decide +kernel
theorem dX6_isCylinder_3 : decode cX6_isCylinder 3 = .ok (.getfield 12, 3) := by decide +kernel
theorem dX6_isCylinder_6 : decode cX6_isCylinder 6 = .ok (.getfield 176, 3) := by decide +kernel
theorem dX6_isCylinder_9 : decode cX6_isCylinder 9 = .ok (.iconst 1, 1) := by decide +kernel
theorem dX6_isCylinder_10 : decode cX6_isCylinder 10 = .ok (.isub, 1) := by decide +kernel
theorem dX6_isCylinder_11 : decode cX6_isCylinder 11 = .ok (.invokestatic 33, 3) := by decide +kernel
theorem dX6_isCylinder_14 : decode cX6_isCylinder 14 = .ok (.ireturn, 1) := by decide +kernel
theorem dX6_demand_0 : decode cX6_demand 0 = .ok (.iload_n 0, 1) := by decide +kernel
theorem dX6_demand_1 : decode cX6_demand 1 = .ok (.ifCond .ne 13, 3) := by decide +kernel
theorem dX6_demand_4 : decode cX6_demand 4 = .ok (.new 226, 3) := by decide +kernel
theorem dX6_demand_7 : decode cX6_demand 7 = .ok (.dup, 1) := by decide +kernel
theorem dX6_demand_8 : decode cX6_demand 8 = .ok (.ldc 228, 2) := by decide +kernel
theorem dX6_demand_10 : decode cX6_demand 10 = .ok (.invokespecial 230, 3) := by decide +kernel
theorem dX6_demand_13 : decode cX6_demand 13 = .ok (.athrow, 1) := by decide +kernel
theorem dX6_demand_14 : decode cX6_demand 14 = .ok (.return_, 1) := by decide +kernel
theorem dX6_demandPlace_0 : decode cX6_demandPlace 0 = .ok (.iload_n 0, 1) := by decide +kernel
theorem dX6_demandPlace_1 : decode cX6_demandPlace 1 = .ok (.ifCond .ne 13, 3) := by decide +kernel
theorem dX6_demandPlace_4 : decode cX6_demandPlace 4 = .ok (.new 233, 3) := by decide +kernel
theorem dX6_demandPlace_7 : decode cX6_demandPlace 7 = .ok (.dup, 1) := by decide +kernel
theorem dX6_demandPlace_8 : decode cX6_demandPlace 8 = .ok (.ldc 235, 2) := by decide +kernel
theorem dX6_demandPlace_10 : decode cX6_demandPlace 10 = .ok (.invokespecial 237, 3) := by decide +kernel
theorem dX6_demandPlace_13 : decode cX6_demandPlace 13 = .ok (.athrow, 1) := by decide +kernel
theorem dX6_demandPlace_14 : decode cX6_demandPlace 14 = .ok (.return_, 1) := by decide +kernel
theorem dX6_demandState_0 : decode cX6_demandState 0 = .ok (.iload_n 0, 1) := by decide +kernel
theorem dX6_demandState_1 : decode cX6_demandState 1 = .ok (.ifCond .ne 13, 3) := by decide +kernel
theorem dX6_demandState_4 : decode cX6_demandState 4 = .ok (.new 238, 3) := by decide +kernel
theorem dX6_demandState_7 : decode cX6_demandState 7 = .ok (.dup, 1) := by decide +kernel
theorem dX6_demandState_8 : decode cX6_demandState 8 = .ok (.ldc 240, 2) := by decide +kernel
theorem dX6_demandState_10 : decode cX6_demandState 10 = .ok (.invokespecial 242, 3) := by decide +kernel
theorem dX6_demandState_13 : decode cX6_demandState 13 = .ok (.athrow, 1) := by decide +kernel
theorem dX6_demandState_14 : decode cX6_demandState 14 = .ok (.return_, 1) := by decide +kernel
theorem dJ9_floorDiv_7cf53_0 : decode cJ9_floorDiv_7cf53 0 = .ok (.iload_n 0, 1) := by decide +kernel
theorem dJ9_floorDiv_7cf53_1 : decode cJ9_floorDiv_7cf53 1 = .ok (.iload_n 1, 1) := by decide +kernel
theorem dJ9_floorDiv_7cf53_2 : decode cJ9_floorDiv_7cf53 2 = .ok (.idiv, 1) := by decide +kernel
theorem dJ9_floorDiv_7cf53_3 : decode cJ9_floorDiv_7cf53 3 = .ok (.istore_n 2, 1) := by decide +kernel
theorem dJ9_floorDiv_7cf53_4 : decode cJ9_floorDiv_7cf53 4 = .ok (.iload_n 0, 1) := by decide +kernel
theorem dJ9_floorDiv_7cf53_5 : decode cJ9_floorDiv_7cf53 5 = .ok (.iload_n 1, 1) := by decide +kernel
theorem dJ9_floorDiv_7cf53_6 : decode cJ9_floorDiv_7cf53 6 = .ok (.ixor, 1) := by decide +kernel
theorem dJ9_floorDiv_7cf53_7 : decode cJ9_floorDiv_7cf53 7 = .ok (.ifCond .ge 14, 3) := by decide +kernel
theorem dJ9_floorDiv_7cf53_10 : decode cJ9_floorDiv_7cf53 10 = .ok (.iload_n 2, 1) := by decide +kernel
theorem dJ9_floorDiv_7cf53_11 : decode cJ9_floorDiv_7cf53 11 = .ok (.iload_n 1, 1) := by decide +kernel
theorem dJ9_floorDiv_7cf53_12 : decode cJ9_floorDiv_7cf53 12 = .ok (.imul, 1) := by decide +kernel
theorem dJ9_floorDiv_7cf53_13 : decode cJ9_floorDiv_7cf53 13 = .ok (.iload_n 0, 1) := by decide +kernel
theorem dJ9_floorDiv_7cf53_14 : decode cJ9_floorDiv_7cf53 14 = .ok (.if_icmp .eq 7, 3) := by decide +kernel
theorem dJ9_floorDiv_7cf53_17 : decode cJ9_floorDiv_7cf53 17 = .ok (.iload_n 2, 1) := by decide +kernel
theorem dJ9_floorDiv_7cf53_18 : decode cJ9_floorDiv_7cf53 18 = .ok (.iconst 1, 1) := by decide +kernel
theorem dJ9_floorDiv_7cf53_19 : decode cJ9_floorDiv_7cf53 19 = .ok (.isub, 1) := by decide +kernel
theorem dJ9_floorDiv_7cf53_20 : decode cJ9_floorDiv_7cf53 20 = .ok (.ireturn, 1) := by decide +kernel
theorem dJ9_floorDiv_7cf53_21 : decode cJ9_floorDiv_7cf53 21 = .ok (.iload_n 2, 1) := by decide +kernel
theorem dJ9_floorDiv_7cf53_22 : decode cJ9_floorDiv_7cf53 22 = .ok (.ireturn, 1) := by decide +kernel
theorem dJ9_max_7cf53_0 : decode cJ9_max_7cf53 0 = .ok (.iload_n 0, 1) := by decide +kernel
theorem dJ9_max_7cf53_1 : decode cJ9_max_7cf53 1 = .ok (.iload_n 1, 1) := by decide +kernel
theorem dJ9_max_7cf53_2 : decode cJ9_max_7cf53 2 = .ok (.if_icmp .lt 7, 3) := by decide +kernel
theorem dJ9_max_7cf53_5 : decode cJ9_max_7cf53 5 = .ok (.iload_n 0, 1) := by decide +kernel
theorem dJ9_max_7cf53_6 : decode cJ9_max_7cf53 6 = .ok (.goto 4, 3) := by decide +kernel
theorem dJ9_max_7cf53_9 : decode cJ9_max_7cf53 9 = .ok (.iload_n 1, 1) := by decide +kernel
theorem dJ9_max_7cf53_10 : decode cJ9_max_7cf53 10 = .ok (.ireturn, 1) := by decide +kernel
theorem dJ9_min_7cf53_0 : decode cJ9_min_7cf53 0 = .ok (.iload_n 0, 1) := by decide +kernel
theorem dJ9_min_7cf53_1 : decode cJ9_min_7cf53 1 = .ok (.iload_n 1, 1) := by decide +kernel
theorem dJ9_min_7cf53_2 : decode cJ9_min_7cf53 2 = .ok (.if_icmp .gt 7, 3) := by decide +kernel
theorem dJ9_min_7cf53_5 : decode cJ9_min_7cf53 5 = .ok (.iload_n 0, 1) := by decide +kernel
theorem dJ9_min_7cf53_6 : decode cJ9_min_7cf53 6 = .ok (.goto 4, 3) := by decide +kernel
theorem dJ9_min_7cf53_9 : decode cJ9_min_7cf53 9 = .ok (.iload_n 1, 1) := by decide +kernel
theorem dJ9_min_7cf53_10 : decode cJ9_min_7cf53 10 = .ok (.ireturn, 1) := by decide +kernel
theorem dL_cell_0 : decode cL_cell 0 = .ok (.iload_n 1, 1) := by decide +kernel
theorem dL_cell_1 : decode cL_cell 1 = .ok (.aload_n 0, 1) := by decide +kernel
theorem dL_cell_2 : decode cL_cell 2 = .ok (.arraylength, 1) := by decide +kernel
theorem dL_cell_3 : decode cL_cell 3 = .ok (.if_icmp .ge 9, 3) := by decide +kernel
theorem dL_cell_6 : decode cL_cell 6 = .ok (.aload_n 0, 1) := by decide +kernel
theorem dL_cell_7 : decode cL_cell 7 = .ok (.iload_n 1, 1) := by decide +kernel
theorem dL_cell_8 : decode cL_cell 8 = .ok (.iaload, 1) := by decide +kernel
theorem dL_cell_9 : decode cL_cell 9 = .ok (.goto 9, 3) := by decide +kernel
theorem dL_cell_12 : decode cL_cell 12 = .ok (.ldc 7, 2) := by decide +kernel
theorem dL_cell_14 : decode cL_cell 14 = .ok (.iload_n 1, 1) := by decide +kernel
theorem dL_cell_15 : decode cL_cell 15 = .ok (.iconst 1, 1) := by decide +kernel
theorem dL_cell_16 : decode cL_cell 16 = .ok (.iadd, 1) := by decide +kernel
theorem dL_cell_17 : decode cL_cell 17 = .ok (.imul, 1) := by decide +kernel
theorem dL_cell_18 : decode cL_cell 18 = .ok (.ireturn, 1) := by decide +kernel
theorem dL_low_0 : decode cL_low 0 = .ok (.iload_n 0, 1) := by decide +kernel
theorem dL_low_1 : decode cL_low 1 = .ok (.ldc 8, 2) := by decide +kernel
theorem dL_low_3 : decode cL_low 3 = .ok (.iand, 1) := by decide +kernel
theorem dL_low_4 : decode cL_low 4 = .ok (.iload_n 1, 1) := by decide +kernel
theorem dL_low_5 : decode cL_low 5 = .ok (.irem, 1) := by decide +kernel
theorem dL_low_6 : decode cL_low 6 = .ok (.ireturn, 1) := by decide +kernel
theorem dL_begin_0 : decode cL_begin 0 = .ok (.aload_n 0, 1) := by decide +kernel
theorem dL_begin_1 : decode cL_begin 1 = .ok (.iload_n 1, 1) := by decide +kernel
theorem dL_begin_2 : decode cL_begin 2 = .ok (.invokevirtual 9, 3) := by decide +kernel
theorem dL_begin_5 : decode cL_begin 5 = .ok (.istore_n 2, 1) := by decide +kernel
theorem dL_begin_6 : decode cL_begin 6 = .ok (.goto 7, 3) := by decide +kernel
theorem dL_begin_9 : decode cL_begin 9 = .ok (.astore_n 3, 1) := by decide +kernel
theorem dL_begin_10 : decode cL_begin 10 = .ok (.ldc 17, 2) := by decide +kernel
theorem dL_begin_12 : decode cL_begin 12 = .ok (.ireturn, 1) := by decide +kernel
theorem dL_begin_13 : decode cL_begin 13 = .ok (.iload_n 2, 1) := by decide +kernel
theorem dL_begin_14 : decode cL_begin 14 = .ok (.ireturn, 1) := by decide +kernel
theorem dL_set_0 : decode cL_set 0 = .ok (.aload_n 0, 1) := by decide +kernel
theorem dL_set_1 : decode cL_set 1 = .ok (.iload_n 1, 1) := by decide +kernel
theorem dL_set_2 : decode cL_set 2 = .ok (.iload_n 2, 1) := by decide +kernel
theorem dL_set_3 : decode cL_set 3 = .ok (.invokevirtual 18, 3) := by decide +kernel
theorem dL_set_6 : decode cL_set 6 = .ok (.istore_n 3, 1) := by decide +kernel
theorem dL_set_7 : decode cL_set 7 = .ok (.goto 8, 3) := by decide +kernel
theorem dL_set_10 : decode cL_set 10 = .ok (.astore 4, 2) := by decide +kernel
theorem dL_set_12 : decode cL_set 12 = .ok (.ldc 17, 2) := by decide +kernel
theorem dL_set_14 : decode cL_set 14 = .ok (.ireturn, 1) := by decide +kernel
theorem dL_set_15 : decode cL_set 15 = .ok (.iload_n 3, 1) := by decide +kernel
theorem dL_set_16 : decode cL_set 16 = .ok (.ireturn, 1) := by decide +kernel
theorem dL_value_0 : decode cL_value 0 = .ok (.aload_n 0, 1) := by decide +kernel
theorem dL_value_1 : decode cL_value 1 = .ok (.iload_n 1, 1) := by decide +kernel
theorem dL_value_2 : decode cL_value 2 = .ok (.invokevirtual 22, 3) := by decide +kernel
theorem dL_value_5 : decode cL_value 5 = .ok (.istore_n 2, 1) := by decide +kernel
theorem dL_value_6 : decode cL_value 6 = .ok (.goto 7, 3) := by decide +kernel
theorem dL_value_9 : decode cL_value 9 = .ok (.astore_n 3, 1) := by decide +kernel
theorem dL_value_10 : decode cL_value 10 = .ok (.ldc 17, 2) := by decide +kernel
theorem dL_value_12 : decode cL_value 12 = .ok (.ireturn, 1) := by decide +kernel
theorem dL_value_13 : decode cL_value 13 = .ok (.iload_n 2, 1) := by decide +kernel
theorem dL_value_14 : decode cL_value 14 = .ok (.ireturn, 1) := by decide +kernel
theorem dL_teach_0 : decode cL_teach 0 = .ok (.aload_n 0, 1) := by decide +kernel
theorem dL_teach_1 : decode cL_teach 1 = .ok (.iload_n 1, 1) := by decide +kernel
theorem dL_teach_2 : decode cL_teach 2 = .ok (.iload_n 2, 1) := by decide +kernel
theorem dL_teach_3 : decode cL_teach 3 = .ok (.iload_n 3, 1) := by decide +kernel
theorem dL_teach_4 : decode cL_teach 4 = .ok (.invokevirtual 25, 3) := by decide +kernel
theorem dL_teach_7 : decode cL_teach 7 = .ok (.istore 4, 2) := by decide +kernel
theorem dL_teach_9 : decode cL_teach 9 = .ok (.goto 13, 3) := by decide +kernel
theorem dL_teach_12 : decode cL_teach 12 = .ok (.astore 5, 2) := by decide +kernel
theorem dL_teach_14 : decode cL_teach 14 = .ok (.ldc 31, 2) := by decide +kernel
theorem dL_teach_16 : decode cL_teach 16 = .ok (.ireturn, 1) := by decide +kernel
theorem dL_teach_17 : decode cL_teach 17 = .ok (.astore 5, 2) := by decide +kernel
theorem dL_teach_19 : decode cL_teach 19 = .ok (.ldc 17, 2) := by decide +kernel
theorem dL_teach_21 : decode cL_teach 21 = .ok (.ireturn, 1) := by decide +kernel
theorem dL_teach_22 : decode cL_teach 22 = .ok (.iload 4, 2) := by decide +kernel
theorem dL_teach_24 : decode cL_teach 24 = .ok (.ireturn, 1) := by decide +kernel
theorem dL_seed_0 : decode cL_seed 0 = .ok (.aload_n 0, 1) := by decide +kernel
theorem dL_seed_1 : decode cL_seed 1 = .ok (.iload_n 1, 1) := by decide +kernel
theorem dL_seed_2 : decode cL_seed 2 = .ok (.invokevirtual 32, 3) := by decide +kernel
theorem dL_seed_5 : decode cL_seed 5 = .ok (.istore_n 2, 1) := by decide +kernel
theorem dL_seed_6 : decode cL_seed 6 = .ok (.goto 7, 3) := by decide +kernel
theorem dL_seed_9 : decode cL_seed 9 = .ok (.astore_n 3, 1) := by decide +kernel
theorem dL_seed_10 : decode cL_seed 10 = .ok (.ldc 17, 2) := by decide +kernel
theorem dL_seed_12 : decode cL_seed 12 = .ok (.ireturn, 1) := by decide +kernel
theorem dL_seed_13 : decode cL_seed 13 = .ok (.iload_n 2, 1) := by decide +kernel
theorem dL_seed_14 : decode cL_seed 14 = .ok (.ireturn, 1) := by decide +kernel
theorem dL_fire_0 : decode cL_fire 0 = .ok (.aload_n 0, 1) := by decide +kernel
theorem dL_fire_1 : decode cL_fire 1 = .ok (.iload_n 1, 1) := by decide +kernel
theorem dL_fire_2 : decode cL_fire 2 = .ok (.iload_n 2, 1) := by decide +kernel
theorem dL_fire_3 : decode cL_fire 3 = .ok (.iload_n 3, 1) := by decide +kernel
theorem dL_fire_4 : decode cL_fire 4 = .ok (.invokevirtual 35, 3) := by decide +kernel
theorem dL_fire_7 : decode cL_fire 7 = .ok (.istore 4, 2) := by decide +kernel
theorem dL_fire_9 : decode cL_fire 9 = .ok (.goto 8, 3) := by decide +kernel
theorem dL_fire_12 : decode cL_fire 12 = .ok (.astore 5, 2) := by decide +kernel
theorem dL_fire_14 : decode cL_fire 14 = .ok (.ldc 17, 2) := by decide +kernel
theorem dL_fire_16 : decode cL_fire 16 = .ok (.ireturn, 1) := by decide +kernel
theorem dL_fire_17 : decode cL_fire 17 = .ok (.iload 4, 2) := by decide +kernel
theorem dL_fire_19 : decode cL_fire 19 = .ok (.ireturn, 1) := by decide +kernel
theorem dL_drive_0 : decode cL_drive 0 = .ok (.aload_n 0, 1) := by decide +kernel
theorem dL_drive_1 : decode cL_drive 1 = .ok (.iload_n 1, 1) := by decide +kernel
theorem dL_drive_2 : decode cL_drive 2 = .ok (.iload_n 2, 1) := by decide +kernel
theorem dL_drive_3 : decode cL_drive 3 = .ok (.iload_n 3, 1) := by decide +kernel
theorem dL_drive_4 : decode cL_drive 4 = .ok (.iload 4, 2) := by decide +kernel
theorem dL_drive_6 : decode cL_drive 6 = .ok (.invokevirtual 38, 3) := by decide +kernel
theorem dL_drive_9 : decode cL_drive 9 = .ok (.istore 5, 2) := by decide +kernel
theorem dL_drive_11 : decode cL_drive 11 = .ok (.goto 8, 3) := by decide +kernel
theorem dL_drive_14 : decode cL_drive 14 = .ok (.astore 6, 2) := by decide +kernel
theorem dL_drive_16 : decode cL_drive 16 = .ok (.ldc 17, 2) := by decide +kernel
theorem dL_drive_18 : decode cL_drive 18 = .ok (.ireturn, 1) := by decide +kernel
theorem dL_drive_19 : decode cL_drive 19 = .ok (.iload 5, 2) := by decide +kernel
theorem dL_drive_21 : decode cL_drive 21 = .ok (.ireturn, 1) := by decide +kernel
theorem dL_cylinder_0 : decode cL_cylinder 0 = .ok (.aload_n 0, 1) := by decide +kernel
theorem dL_cylinder_1 : decode cL_cylinder 1 = .ok (.iload_n 1, 1) := by decide +kernel
theorem dL_cylinder_2 : decode cL_cylinder 2 = .ok (.iload_n 2, 1) := by decide +kernel
theorem dL_cylinder_3 : decode cL_cylinder 3 = .ok (.invokevirtual 42, 3) := by decide +kernel
theorem dL_cylinder_6 : decode cL_cylinder 6 = .ok (.istore_n 3, 1) := by decide +kernel
theorem dL_cylinder_7 : decode cL_cylinder 7 = .ok (.goto 13, 3) := by decide +kernel
theorem dL_cylinder_10 : decode cL_cylinder 10 = .ok (.astore 4, 2) := by decide +kernel
theorem dL_cylinder_12 : decode cL_cylinder 12 = .ok (.ldc 31, 2) := by decide +kernel
theorem dL_cylinder_14 : decode cL_cylinder 14 = .ok (.ireturn, 1) := by decide +kernel
theorem dL_cylinder_15 : decode cL_cylinder 15 = .ok (.astore 4, 2) := by decide +kernel
theorem dL_cylinder_17 : decode cL_cylinder 17 = .ok (.ldc 17, 2) := by decide +kernel
theorem dL_cylinder_19 : decode cL_cylinder 19 = .ok (.ireturn, 1) := by decide +kernel
theorem dL_cylinder_20 : decode cL_cylinder 20 = .ok (.iload_n 3, 1) := by decide +kernel
theorem dL_cylinder_21 : decode cL_cylinder 21 = .ok (.ireturn, 1) := by decide +kernel
theorem dL_learned_0 : decode cL_learned 0 = .ok (.aload_n 0, 1) := by decide +kernel
theorem dL_learned_1 : decode cL_learned 1 = .ok (.iload_n 1, 1) := by decide +kernel
theorem dL_learned_2 : decode cL_learned 2 = .ok (.iload_n 2, 1) := by decide +kernel
theorem dL_learned_3 : decode cL_learned 3 = .ok (.invokevirtual 45, 3) := by decide +kernel
theorem dL_learned_6 : decode cL_learned 6 = .ok (.istore_n 3, 1) := by decide +kernel
theorem dL_learned_7 : decode cL_learned 7 = .ok (.goto 8, 3) := by decide +kernel
theorem dL_learned_10 : decode cL_learned 10 = .ok (.astore 4, 2) := by decide +kernel
theorem dL_learned_12 : decode cL_learned 12 = .ok (.ldc 31, 2) := by decide +kernel
theorem dL_learned_14 : decode cL_learned 14 = .ok (.ireturn, 1) := by decide +kernel
theorem dL_learned_15 : decode cL_learned 15 = .ok (.iload_n 3, 1) := by decide +kernel
theorem dL_learned_16 : decode cL_learned 16 = .ok (.ireturn, 1) := by decide +kernel
theorem dL_angle_0 : decode cL_angle 0 = .ok (.aload_n 0, 1) := by decide +kernel
theorem dL_angle_1 : decode cL_angle 1 = .ok (.iload_n 1, 1) := by decide +kernel
theorem dL_angle_2 : decode cL_angle 2 = .ok (.iload_n 2, 1) := by decide +kernel
theorem dL_angle_3 : decode cL_angle 3 = .ok (.iload_n 3, 1) := by decide +kernel
theorem dL_angle_4 : decode cL_angle 4 = .ok (.iload 4, 2) := by decide +kernel
theorem dL_angle_6 : decode cL_angle 6 = .ok (.invokevirtual 48, 3) := by decide +kernel
theorem dL_angle_9 : decode cL_angle 9 = .ok (.istore 5, 2) := by decide +kernel
theorem dL_angle_11 : decode cL_angle 11 = .ok (.goto 13, 3) := by decide +kernel
theorem dL_angle_14 : decode cL_angle 14 = .ok (.astore 6, 2) := by decide +kernel
theorem dL_angle_16 : decode cL_angle 16 = .ok (.ldc 31, 2) := by decide +kernel
theorem dL_angle_18 : decode cL_angle 18 = .ok (.ireturn, 1) := by decide +kernel
theorem dL_angle_19 : decode cL_angle 19 = .ok (.astore 6, 2) := by decide +kernel
theorem dL_angle_21 : decode cL_angle 21 = .ok (.ldc 17, 2) := by decide +kernel
theorem dL_angle_23 : decode cL_angle 23 = .ok (.ireturn, 1) := by decide +kernel
theorem dL_angle_24 : decode cL_angle 24 = .ok (.iload 5, 2) := by decide +kernel
theorem dL_angle_26 : decode cL_angle 26 = .ok (.ireturn, 1) := by decide +kernel
theorem dL_status_0 : decode cL_status 0 = .ok (.aload_n 0, 1) := by decide +kernel
theorem dL_status_1 : decode cL_status 1 = .ok (.iload_n 1, 1) := by decide +kernel
theorem dL_status_2 : decode cL_status 2 = .ok (.invokevirtual 52, 3) := by decide +kernel
theorem dL_status_5 : decode cL_status 5 = .ok (.istore_n 2, 1) := by decide +kernel
theorem dL_status_6 : decode cL_status 6 = .ok (.goto 7, 3) := by decide +kernel
theorem dL_status_9 : decode cL_status 9 = .ok (.astore_n 3, 1) := by decide +kernel
theorem dL_status_10 : decode cL_status 10 = .ok (.ldc 17, 2) := by decide +kernel
theorem dL_status_12 : decode cL_status 12 = .ok (.ireturn, 1) := by decide +kernel
theorem dL_status_13 : decode cL_status 13 = .ok (.iload_n 2, 1) := by decide +kernel
theorem dL_status_14 : decode cL_status 14 = .ok (.ireturn, 1) := by decide +kernel
theorem dL_octane_0 : decode cL_octane 0 = .ok (.aload_n 0, 1) := by decide +kernel
theorem dL_octane_1 : decode cL_octane 1 = .ok (.iload_n 1, 1) := by decide +kernel
theorem dL_octane_2 : decode cL_octane 2 = .ok (.invokevirtual 55, 3) := by decide +kernel
theorem dL_octane_5 : decode cL_octane 5 = .ok (.dstore_n 2, 1) := by decide +kernel
theorem dL_octane_6 : decode cL_octane 6 = .ok (.goto 9, 3) := by decide +kernel
theorem dL_octane_9 : decode cL_octane 9 = .ok (.astore 4, 2) := by decide +kernel
theorem dL_octane_11 : decode cL_octane 11 = .ok (.ldc2_w 59, 3) := by decide +kernel
theorem dL_octane_14 : decode cL_octane 14 = .ok (.dreturn, 1) := by decide +kernel
theorem dL_octane_15 : decode cL_octane 15 = .ok (.dload_n 2, 1) := by decide +kernel
theorem dL_octane_16 : decode cL_octane 16 = .ok (.dreturn, 1) := by decide +kernel
theorem dL_extreme_0 : decode cL_extreme 0 = .ok (.aload_n 0, 1) := by decide +kernel
theorem dL_extreme_1 : decode cL_extreme 1 = .ok (.iload_n 1, 1) := by decide +kernel
theorem dL_extreme_2 : decode cL_extreme 2 = .ok (.iload_n 2, 1) := by decide +kernel
theorem dL_extreme_3 : decode cL_extreme 3 = .ok (.iload_n 3, 1) := by decide +kernel
theorem dL_extreme_4 : decode cL_extreme 4 = .ok (.invokevirtual 61, 3) := by decide +kernel
theorem dL_extreme_7 : decode cL_extreme 7 = .ok (.istore 4, 2) := by decide +kernel
theorem dL_extreme_9 : decode cL_extreme 9 = .ok (.goto 8, 3) := by decide +kernel
theorem dL_extreme_12 : decode cL_extreme 12 = .ok (.astore 5, 2) := by decide +kernel
theorem dL_extreme_14 : decode cL_extreme 14 = .ok (.ldc 31, 2) := by decide +kernel
theorem dL_extreme_16 : decode cL_extreme 16 = .ok (.ireturn, 1) := by decide +kernel
theorem dL_extreme_17 : decode cL_extreme 17 = .ok (.iload 4, 2) := by decide +kernel
theorem dL_extreme_19 : decode cL_extreme 19 = .ok (.ireturn, 1) := by decide +kernel
theorem dL_event_0 : decode cL_event 0 = .ok (.aload_n 0, 1) := by decide +kernel
theorem dL_event_1 : decode cL_event 1 = .ok (.iload_n 1, 1) := by decide +kernel
theorem dL_event_2 : decode cL_event 2 = .ok (.iload_n 2, 1) := by decide +kernel
theorem dL_event_3 : decode cL_event 3 = .ok (.invokevirtual 65, 3) := by decide +kernel
theorem dL_event_6 : decode cL_event 6 = .ok (.istore_n 3, 1) := by decide +kernel
theorem dL_event_7 : decode cL_event 7 = .ok (.goto 13, 3) := by decide +kernel
theorem dL_event_10 : decode cL_event 10 = .ok (.astore 4, 2) := by decide +kernel
theorem dL_event_12 : decode cL_event 12 = .ok (.ldc 31, 2) := by decide +kernel
theorem dL_event_14 : decode cL_event 14 = .ok (.ireturn, 1) := by decide +kernel
theorem dL_event_15 : decode cL_event 15 = .ok (.astore 4, 2) := by decide +kernel
theorem dL_event_17 : decode cL_event 17 = .ok (.ldc 17, 2) := by decide +kernel
theorem dL_event_19 : decode cL_event 19 = .ok (.ireturn, 1) := by decide +kernel
theorem dL_event_20 : decode cL_event 20 = .ok (.iload_n 3, 1) := by decide +kernel
theorem dL_event_21 : decode cL_event 21 = .ok (.ireturn, 1) := by decide +kernel
theorem dL_eventsOf_0 : decode cL_eventsOf 0 = .ok (.aload_n 0, 1) := by decide +kernel
theorem dL_eventsOf_1 : decode cL_eventsOf 1 = .ok (.iload_n 1, 1) := by decide +kernel
theorem dL_eventsOf_2 : decode cL_eventsOf 2 = .ok (.invokevirtual 68, 3) := by decide +kernel
theorem dL_eventsOf_5 : decode cL_eventsOf 5 = .ok (.istore_n 2, 1) := by decide +kernel
theorem dL_eventsOf_6 : decode cL_eventsOf 6 = .ok (.goto 7, 3) := by decide +kernel
theorem dL_eventsOf_9 : decode cL_eventsOf 9 = .ok (.astore_n 3, 1) := by decide +kernel
theorem dL_eventsOf_10 : decode cL_eventsOf 10 = .ok (.ldc 17, 2) := by decide +kernel
theorem dL_eventsOf_12 : decode cL_eventsOf 12 = .ok (.ireturn, 1) := by decide +kernel
theorem dL_eventsOf_13 : decode cL_eventsOf 13 = .ok (.iload_n 2, 1) := by decide +kernel
theorem dL_eventsOf_14 : decode cL_eventsOf 14 = .ok (.ireturn, 1) := by decide +kernel
theorem dL_limit_0 : decode cL_limit 0 = .ok (.aload_n 0, 1) := by decide +kernel
theorem dL_limit_1 : decode cL_limit 1 = .ok (.iload_n 1, 1) := by decide +kernel
theorem dL_limit_2 : decode cL_limit 2 = .ok (.iload_n 2, 1) := by decide +kernel
theorem dL_limit_3 : decode cL_limit 3 = .ok (.iload_n 3, 1) := by decide +kernel
theorem dL_limit_4 : decode cL_limit 4 = .ok (.iload 4, 2) := by decide +kernel
theorem dL_limit_6 : decode cL_limit 6 = .ok (.invokevirtual 71, 3) := by decide +kernel
theorem dL_limit_9 : decode cL_limit 9 = .ok (.istore 5, 2) := by decide +kernel
theorem dL_limit_11 : decode cL_limit 11 = .ok (.goto 13, 3) := by decide +kernel
theorem dL_limit_14 : decode cL_limit 14 = .ok (.astore 6, 2) := by decide +kernel
theorem dL_limit_16 : decode cL_limit 16 = .ok (.ldc 31, 2) := by decide +kernel
theorem dL_limit_18 : decode cL_limit 18 = .ok (.ireturn, 1) := by decide +kernel
theorem dL_limit_19 : decode cL_limit 19 = .ok (.astore 6, 2) := by decide +kernel
theorem dL_limit_21 : decode cL_limit 21 = .ok (.ldc 17, 2) := by decide +kernel
theorem dL_limit_23 : decode cL_limit 23 = .ok (.ireturn, 1) := by decide +kernel
theorem dL_limit_24 : decode cL_limit 24 = .ok (.iload 5, 2) := by decide +kernel
theorem dL_limit_26 : decode cL_limit 26 = .ok (.ireturn, 1) := by decide +kernel
theorem dL_quietAfter_0 : decode cL_quietAfter 0 = .ok (.aload_n 0, 1) := by decide +kernel
theorem dL_quietAfter_1 : decode cL_quietAfter 1 = .ok (.iload_n 1, 1) := by decide +kernel
theorem dL_quietAfter_2 : decode cL_quietAfter 2 = .ok (.iload_n 2, 1) := by decide +kernel
theorem dL_quietAfter_3 : decode cL_quietAfter 3 = .ok (.iload_n 3, 1) := by decide +kernel
theorem dL_quietAfter_4 : decode cL_quietAfter 4 = .ok (.invokevirtual 74, 3) := by decide +kernel
theorem dL_quietAfter_7 : decode cL_quietAfter 7 = .ok (.istore 4, 2) := by decide +kernel
theorem dL_quietAfter_9 : decode cL_quietAfter 9 = .ok (.goto 8, 3) := by decide +kernel
theorem dL_quietAfter_12 : decode cL_quietAfter 12 = .ok (.astore 5, 2) := by decide +kernel
theorem dL_quietAfter_14 : decode cL_quietAfter 14 = .ok (.ldc 17, 2) := by decide +kernel
theorem dL_quietAfter_16 : decode cL_quietAfter 16 = .ok (.ireturn, 1) := by decide +kernel
theorem dL_quietAfter_17 : decode cL_quietAfter 17 = .ok (.iload 4, 2) := by decide +kernel
theorem dL_quietAfter_19 : decode cL_quietAfter 19 = .ok (.ireturn, 1) := by decide +kernel
theorem dL_lowestOctane_0 : decode cL_lowestOctane 0 = .ok (.aload_n 0, 1) := by decide +kernel
theorem dL_lowestOctane_1 : decode cL_lowestOctane 1 = .ok (.iload_n 1, 1) := by decide +kernel
theorem dL_lowestOctane_2 : decode cL_lowestOctane 2 = .ok (.iload_n 2, 1) := by decide +kernel
theorem dL_lowestOctane_3 : decode cL_lowestOctane 3 = .ok (.iload_n 3, 1) := by decide +kernel
theorem dL_lowestOctane_4 : decode cL_lowestOctane 4 = .ok (.invokevirtual 77, 3) := by decide +kernel
theorem dL_lowestOctane_7 : decode cL_lowestOctane 7 = .ok (.istore 4, 2) := by decide +kernel
theorem dL_lowestOctane_9 : decode cL_lowestOctane 9 = .ok (.goto 8, 3) := by decide +kernel
theorem dL_lowestOctane_12 : decode cL_lowestOctane 12 = .ok (.astore 5, 2) := by decide +kernel
theorem dL_lowestOctane_14 : decode cL_lowestOctane 14 = .ok (.ldc 17, 2) := by decide +kernel
theorem dL_lowestOctane_16 : decode cL_lowestOctane 16 = .ok (.ireturn, 1) := by decide +kernel
theorem dL_lowestOctane_17 : decode cL_lowestOctane 17 = .ok (.iload 4, 2) := by decide +kernel
theorem dL_lowestOctane_19 : decode cL_lowestOctane 19 = .ok (.ireturn, 1) := by decide +kernel
theorem dL_append_0 : decode cL_append 0 = .ok (.aload_n 0, 1) := by decide +kernel
theorem dL_append_1 : decode cL_append 1 = .ok (.iload_n 1, 1) := by decide +kernel
theorem dL_append_2 : decode cL_append 2 = .ok (.invokevirtual 80, 3) := by decide +kernel
theorem dL_append_5 : decode cL_append 5 = .ok (.istore_n 2, 1) := by decide +kernel
theorem dL_append_6 : decode cL_append 6 = .ok (.goto 11, 3) := by decide +kernel
theorem dL_append_9 : decode cL_append 9 = .ok (.astore_n 3, 1) := by decide +kernel
theorem dL_append_10 : decode cL_append 10 = .ok (.ldc 17, 2) := by decide +kernel
theorem dL_append_12 : decode cL_append 12 = .ok (.ireturn, 1) := by decide +kernel
theorem dL_append_13 : decode cL_append 13 = .ok (.astore_n 3, 1) := by decide +kernel
theorem dL_append_14 : decode cL_append 14 = .ok (.ldc 85, 2) := by decide +kernel
theorem dL_append_16 : decode cL_append 16 = .ok (.ireturn, 1) := by decide +kernel
theorem dL_append_17 : decode cL_append 17 = .ok (.iload_n 2, 1) := by decide +kernel
theorem dL_append_18 : decode cL_append 18 = .ok (.ireturn, 1) := by decide +kernel
theorem dL_undo_0 : decode cL_undo 0 = .ok (.aload_n 0, 1) := by decide +kernel
theorem dL_undo_1 : decode cL_undo 1 = .ok (.invokevirtual 86, 3) := by decide +kernel
theorem dL_undo_4 : decode cL_undo 4 = .ok (.istore_n 1, 1) := by decide +kernel
theorem dL_undo_5 : decode cL_undo 5 = .ok (.goto 7, 3) := by decide +kernel
theorem dL_undo_8 : decode cL_undo 8 = .ok (.astore_n 2, 1) := by decide +kernel
theorem dL_undo_9 : decode cL_undo 9 = .ok (.ldc 85, 2) := by decide +kernel
theorem dL_undo_11 : decode cL_undo 11 = .ok (.ireturn, 1) := by decide +kernel
theorem dL_undo_12 : decode cL_undo 12 = .ok (.iload_n 1, 1) := by decide +kernel
theorem dL_undo_13 : decode cL_undo 13 = .ok (.ireturn, 1) := by decide +kernel
theorem dL_print_0 : decode cL_print 0 = .ok (.ldc2_w 90, 3) := by decide +kernel
theorem dL_print_3 : decode cL_print 3 = .ok (.ldc2_w 90, 3) := by decide +kernel
theorem dL_print_6 : decode cL_print 6 = .ok (.aload_n 0, 1) := by decide +kernel
theorem dL_print_7 : decode cL_print 7 = .ok (.invokevirtual 92, 3) := by decide +kernel
theorem dL_print_10 : decode cL_print 10 = .ok (.i2l, 1) := by decide +kernel
theorem dL_print_11 : decode cL_print 11 = .ok (.lmul, 1) := by decide +kernel
theorem dL_print_12 : decode cL_print 12 = .ok (.aload_n 0, 1) := by decide +kernel
theorem dL_print_13 : decode cL_print 13 = .ok (.invokevirtual 95, 3) := by decide +kernel
theorem dL_print_16 : decode cL_print 16 = .ok (.i2l, 1) := by decide +kernel
theorem dL_print_17 : decode cL_print 17 = .ok (.ladd, 1) := by decide +kernel
theorem dL_print_18 : decode cL_print 18 = .ok (.lmul, 1) := by decide +kernel
theorem dL_print_19 : decode cL_print 19 = .ok (.aload_n 0, 1) := by decide +kernel
theorem dL_print_20 : decode cL_print 20 = .ok (.invokevirtual 98, 3) := by decide +kernel
theorem dL_print_23 : decode cL_print 23 = .ok (.i2l, 1) := by decide +kernel
theorem dL_print_24 : decode cL_print 24 = .ok (.ladd, 1) := by decide +kernel
theorem dL_print_25 : decode cL_print 25 = .ok (.lstore_n 1, 1) := by decide +kernel
theorem dL_print_26 : decode cL_print 26 = .ok (.iconst 0, 1) := by decide +kernel
theorem dL_print_27 : decode cL_print 27 = .ok (.istore_n 3, 1) := by decide +kernel
theorem dL_print_28 : decode cL_print 28 = .ok (.iload_n 3, 1) := by decide +kernel
theorem dL_print_29 : decode cL_print 29 = .ok (.bipush 9, 2) := by decide +kernel
theorem dL_print_31 : decode cL_print 31 = .ok (.if_icmp .ge 35, 3) := by decide +kernel
theorem dL_print_34 : decode cL_print 34 = .ok (.ldc2_w 90, 3) := by decide +kernel
theorem dL_print_37 : decode cL_print 37 = .ok (.ldc2_w 90, 3) := by decide +kernel
theorem dL_print_40 : decode cL_print 40 = .ok (.lload_n 1, 1) := by decide +kernel
theorem dL_print_41 : decode cL_print 41 = .ok (.lmul, 1) := by decide +kernel
theorem dL_print_42 : decode cL_print 42 = .ok (.aload_n 0, 1) := by decide +kernel
theorem dL_print_43 : decode cL_print 43 = .ok (.iload_n 3, 1) := by decide +kernel
theorem dL_print_44 : decode cL_print 44 = .ok (.invokestatic 101, 3) := by decide +kernel
theorem dL_print_47 : decode cL_print 47 = .ok (.i2l, 1) := by decide +kernel
theorem dL_print_48 : decode cL_print 48 = .ok (.ladd, 1) := by decide +kernel
theorem dL_print_49 : decode cL_print 49 = .ok (.lmul, 1) := by decide +kernel
theorem dL_print_50 : decode cL_print 50 = .ok (.aload_n 0, 1) := by decide +kernel
theorem dL_print_51 : decode cL_print 51 = .ok (.iload_n 3, 1) := by decide +kernel
theorem dL_print_52 : decode cL_print 52 = .ok (.iconst 5, 1) := by decide +kernel
theorem dL_print_53 : decode cL_print 53 = .ok (.irem, 1) := by decide +kernel
theorem dL_print_54 : decode cL_print 54 = .ok (.invokestatic 106, 3) := by decide +kernel
theorem dL_print_57 : decode cL_print 57 = .ok (.i2l, 1) := by decide +kernel
theorem dL_print_58 : decode cL_print 58 = .ok (.ladd, 1) := by decide +kernel
theorem dL_print_59 : decode cL_print 59 = .ok (.lstore_n 1, 1) := by decide +kernel
theorem dL_print_60 : decode cL_print 60 = .ok (.iinc 3 1, 3) := by decide +kernel
theorem dL_print_63 : decode cL_print 63 = .ok (.goto (-35), 3) := by decide +kernel
theorem dL_print_66 : decode cL_print 66 = .ok (.iconst 0, 1) := by decide +kernel
theorem dL_print_67 : decode cL_print 67 = .ok (.istore_n 3, 1) := by decide +kernel
theorem dL_print_68 : decode cL_print 68 = .ok (.iload_n 3, 1) := by decide +kernel
theorem dL_print_69 : decode cL_print 69 = .ok (.aload_n 0, 1) := by decide +kernel
theorem dL_print_70 : decode cL_print 70 = .ok (.bipush 8, 2) := by decide +kernel
theorem dL_print_72 : decode cL_print 72 = .ok (.invokestatic 101, 3) := by decide +kernel
theorem dL_print_75 : decode cL_print 75 = .ok (.if_icmp .ge 39, 3) := by decide +kernel
theorem dL_print_78 : decode cL_print 78 = .ok (.iconst 0, 1) := by decide +kernel
theorem dL_print_79 : decode cL_print 79 = .ok (.istore 4, 2) := by decide +kernel
theorem dL_print_81 : decode cL_print 81 = .ok (.iload 4, 2) := by decide +kernel
theorem dL_print_83 : decode cL_print 83 = .ok (.iconst 5, 1) := by decide +kernel
theorem dL_print_84 : decode cL_print 84 = .ok (.if_icmp .ge 24, 3) := by decide +kernel
theorem dL_print_87 : decode cL_print 87 = .ok (.ldc2_w 90, 3) := by decide +kernel
theorem dL_print_90 : decode cL_print 90 = .ok (.lload_n 1, 1) := by decide +kernel
theorem dL_print_91 : decode cL_print 91 = .ok (.lmul, 1) := by decide +kernel
theorem dL_print_92 : decode cL_print 92 = .ok (.aload_n 0, 1) := by decide +kernel
theorem dL_print_93 : decode cL_print 93 = .ok (.iload_n 3, 1) := by decide +kernel
theorem dL_print_94 : decode cL_print 94 = .ok (.iload 4, 2) := by decide +kernel
theorem dL_print_96 : decode cL_print 96 = .ok (.invokestatic 108, 3) := by decide +kernel
theorem dL_print_99 : decode cL_print 99 = .ok (.i2l, 1) := by decide +kernel
theorem dL_print_100 : decode cL_print 100 = .ok (.ladd, 1) := by decide +kernel
theorem dL_print_101 : decode cL_print 101 = .ok (.lstore_n 1, 1) := by decide +kernel
theorem dL_print_102 : decode cL_print 102 = .ok (.iinc 4 1, 3) := by decide +kernel
theorem dL_print_105 : decode cL_print 105 = .ok (.goto (-24), 3) := by decide +kernel
theorem dL_print_108 : decode cL_print 108 = .ok (.iinc 3 1, 3) := by decide +kernel
theorem dL_print_111 : decode cL_print 111 = .ok (.goto (-43), 3) := by decide +kernel
theorem dL_print_114 : decode cL_print 114 = .ok (.iconst 0, 1) := by decide +kernel
theorem dL_print_115 : decode cL_print 115 = .ok (.istore_n 3, 1) := by decide +kernel
theorem dL_print_116 : decode cL_print 116 = .ok (.iload_n 3, 1) := by decide +kernel
theorem dL_print_117 : decode cL_print 117 = .ok (.bipush 24, 2) := by decide +kernel
theorem dL_print_119 : decode cL_print 119 = .ok (.if_icmp .ge 27, 3) := by decide +kernel
theorem dL_print_122 : decode cL_print 122 = .ok (.ldc2_w 90, 3) := by decide +kernel
theorem dL_print_125 : decode cL_print 125 = .ok (.lload_n 1, 1) := by decide +kernel
theorem dL_print_126 : decode cL_print 126 = .ok (.lmul, 1) := by decide +kernel
theorem dL_print_127 : decode cL_print 127 = .ok (.aload_n 0, 1) := by decide +kernel
theorem dL_print_128 : decode cL_print 128 = .ok (.iload_n 3, 1) := by decide +kernel
theorem dL_print_129 : decode cL_print 129 = .ok (.iconst 4, 1) := by decide +kernel
theorem dL_print_130 : decode cL_print 130 = .ok (.idiv, 1) := by decide +kernel
theorem dL_print_131 : decode cL_print 131 = .ok (.iload_n 3, 1) := by decide +kernel
theorem dL_print_132 : decode cL_print 132 = .ok (.iconst 4, 1) := by decide +kernel
theorem dL_print_133 : decode cL_print 133 = .ok (.irem, 1) := by decide +kernel
theorem dL_print_134 : decode cL_print 134 = .ok (.invokestatic 111, 3) := by decide +kernel
theorem dL_print_137 : decode cL_print 137 = .ok (.i2l, 1) := by decide +kernel
theorem dL_print_138 : decode cL_print 138 = .ok (.ladd, 1) := by decide +kernel
theorem dL_print_139 : decode cL_print 139 = .ok (.lstore_n 1, 1) := by decide +kernel
theorem dL_print_140 : decode cL_print 140 = .ok (.iinc 3 1, 3) := by decide +kernel
theorem dL_print_143 : decode cL_print 143 = .ok (.goto (-27), 3) := by decide +kernel
theorem dL_print_146 : decode cL_print 146 = .ok (.iconst 0, 1) := by decide +kernel
theorem dL_print_147 : decode cL_print 147 = .ok (.istore_n 3, 1) := by decide +kernel
theorem dL_print_148 : decode cL_print 148 = .ok (.iload_n 3, 1) := by decide +kernel
theorem dL_print_149 : decode cL_print 149 = .ok (.aload_n 0, 1) := by decide +kernel
theorem dL_print_150 : decode cL_print 150 = .ok (.invokevirtual 95, 3) := by decide +kernel
theorem dL_print_153 : decode cL_print 153 = .ok (.if_icmp .ge 47, 3) := by decide +kernel
theorem dL_print_156 : decode cL_print 156 = .ok (.ldc2_w 90, 3) := by decide +kernel
theorem dL_print_159 : decode cL_print 159 = .ok (.ldc2_w 90, 3) := by decide +kernel
theorem dL_print_162 : decode cL_print 162 = .ok (.ldc2_w 90, 3) := by decide +kernel
theorem dL_print_165 : decode cL_print 165 = .ok (.lload_n 1, 1) := by decide +kernel
theorem dL_print_166 : decode cL_print 166 = .ok (.lmul, 1) := by decide +kernel
theorem dL_print_167 : decode cL_print 167 = .ok (.aload_n 0, 1) := by decide +kernel
theorem dL_print_168 : decode cL_print 168 = .ok (.iload_n 3, 1) := by decide +kernel
theorem dL_print_169 : decode cL_print 169 = .ok (.iconst 0, 1) := by decide +kernel
theorem dL_print_170 : decode cL_print 170 = .ok (.invokestatic 113, 3) := by decide +kernel
theorem dL_print_173 : decode cL_print 173 = .ok (.i2l, 1) := by decide +kernel
theorem dL_print_174 : decode cL_print 174 = .ok (.ladd, 1) := by decide +kernel
theorem dL_print_175 : decode cL_print 175 = .ok (.lmul, 1) := by decide +kernel
theorem dL_print_176 : decode cL_print 176 = .ok (.aload_n 0, 1) := by decide +kernel
theorem dL_print_177 : decode cL_print 177 = .ok (.iload_n 3, 1) := by decide +kernel
theorem dL_print_178 : decode cL_print 178 = .ok (.iconst 1, 1) := by decide +kernel
theorem dL_print_179 : decode cL_print 179 = .ok (.invokestatic 113, 3) := by decide +kernel
theorem dL_print_182 : decode cL_print 182 = .ok (.i2l, 1) := by decide +kernel
theorem dL_print_183 : decode cL_print 183 = .ok (.ladd, 1) := by decide +kernel
theorem dL_print_184 : decode cL_print 184 = .ok (.lmul, 1) := by decide +kernel
theorem dL_print_185 : decode cL_print 185 = .ok (.aload_n 0, 1) := by decide +kernel
theorem dL_print_186 : decode cL_print 186 = .ok (.iload_n 3, 1) := by decide +kernel
theorem dL_print_187 : decode cL_print 187 = .ok (.iconst 2, 1) := by decide +kernel
theorem dL_print_188 : decode cL_print 188 = .ok (.invokestatic 113, 3) := by decide +kernel
theorem dL_print_191 : decode cL_print 191 = .ok (.i2l, 1) := by decide +kernel
theorem dL_print_192 : decode cL_print 192 = .ok (.ladd, 1) := by decide +kernel
theorem dL_print_193 : decode cL_print 193 = .ok (.lstore_n 1, 1) := by decide +kernel
theorem dL_print_194 : decode cL_print 194 = .ok (.iinc 3 1, 3) := by decide +kernel
theorem dL_print_197 : decode cL_print 197 = .ok (.goto (-49), 3) := by decide +kernel
theorem dL_print_200 : decode cL_print 200 = .ok (.lload_n 1, 1) := by decide +kernel
theorem dL_print_201 : decode cL_print 201 = .ok (.lreturn, 1) := by decide +kernel
theorem dL_refused_0 : decode cL_refused 0 = .ok (.aload_n 0, 1) := by decide +kernel
theorem dL_refused_1 : decode cL_refused 1 = .ok (.invokestatic 115, 3) := by decide +kernel
theorem dL_refused_4 : decode cL_refused 4 = .ok (.lstore_n 1, 1) := by decide +kernel
theorem dL_refused_5 : decode cL_refused 5 = .ok (.aload_n 0, 1) := by decide +kernel
theorem dL_refused_6 : decode cL_refused 6 = .ok (.iconst 0, 1) := by decide +kernel
theorem dL_refused_7 : decode cL_refused 7 = .ok (.invokestatic 119, 3) := by decide +kernel
theorem dL_refused_10 : decode cL_refused 10 = .ok (.ldc 17, 2) := by decide +kernel
theorem dL_refused_12 : decode cL_refused 12 = .ok (.if_icmp .ne 121, 3) := by decide +kernel
theorem dL_refused_15 : decode cL_refused 15 = .ok (.aload_n 0, 1) := by decide +kernel
theorem dL_refused_16 : decode cL_refused 16 = .ok (.iconst 0, 1) := by decide +kernel
theorem dL_refused_17 : decode cL_refused 17 = .ok (.sipush 200, 3) := by decide +kernel
theorem dL_refused_20 : decode cL_refused 20 = .ok (.invokestatic 121, 3) := by decide +kernel
theorem dL_refused_23 : decode cL_refused 23 = .ok (.ldc 17, 2) := by decide +kernel
theorem dL_refused_25 : decode cL_refused 25 = .ok (.if_icmp .ne 108, 3) := by decide +kernel
theorem dL_refused_28 : decode cL_refused 28 = .ok (.aload_n 0, 1) := by decide +kernel
theorem dL_refused_29 : decode cL_refused 29 = .ok (.iconst (-1), 1) := by decide +kernel
theorem dL_refused_30 : decode cL_refused 30 = .ok (.invokestatic 101, 3) := by decide +kernel
theorem dL_refused_33 : decode cL_refused 33 = .ok (.ldc 17, 2) := by decide +kernel
theorem dL_refused_35 : decode cL_refused 35 = .ok (.if_icmp .ne 98, 3) := by decide +kernel
theorem dL_refused_38 : decode cL_refused 38 = .ok (.aload_n 0, 1) := by decide +kernel
theorem dL_refused_39 : decode cL_refused 39 = .ok (.iconst (-1), 1) := by decide +kernel
theorem dL_refused_40 : decode cL_refused 40 = .ok (.iconst 0, 1) := by decide +kernel
theorem dL_refused_41 : decode cL_refused 41 = .ok (.iconst 0, 1) := by decide +kernel
theorem dL_refused_42 : decode cL_refused 42 = .ok (.invokestatic 123, 3) := by decide +kernel
theorem dL_refused_45 : decode cL_refused 45 = .ok (.ldc 31, 2) := by decide +kernel
theorem dL_refused_47 : decode cL_refused 47 = .ok (.if_icmp .ne 86, 3) := by decide +kernel
theorem dL_refused_50 : decode cL_refused 50 = .ok (.aload_n 0, 1) := by decide +kernel
theorem dL_refused_51 : decode cL_refused 51 = .ok (.ldc 126, 2) := by decide +kernel
theorem dL_refused_53 : decode cL_refused 53 = .ok (.invokestatic 127, 3) := by decide +kernel
theorem dL_refused_56 : decode cL_refused 56 = .ok (.ldc 17, 2) := by decide +kernel
theorem dL_refused_58 : decode cL_refused 58 = .ok (.if_icmp .ne 75, 3) := by decide +kernel
theorem dL_refused_61 : decode cL_refused 61 = .ok (.aload_n 0, 1) := by decide +kernel
theorem dL_refused_62 : decode cL_refused 62 = .ok (.iconst 0, 1) := by decide +kernel
theorem dL_refused_63 : decode cL_refused 63 = .ok (.iconst 0, 1) := by decide +kernel
theorem dL_refused_64 : decode cL_refused 64 = .ok (.iconst 0, 1) := by decide +kernel
theorem dL_refused_65 : decode cL_refused 65 = .ok (.invokestatic 129, 3) := by decide +kernel
theorem dL_refused_68 : decode cL_refused 68 = .ok (.ldc 17, 2) := by decide +kernel
theorem dL_refused_70 : decode cL_refused 70 = .ok (.if_icmp .ne 63, 3) := by decide +kernel
theorem dL_refused_73 : decode cL_refused 73 = .ok (.aload_n 0, 1) := by decide +kernel
theorem dL_refused_74 : decode cL_refused 74 = .ok (.sipush 600, 3) := by decide +kernel
theorem dL_refused_77 : decode cL_refused 77 = .ok (.iconst 0, 1) := by decide +kernel
theorem dL_refused_78 : decode cL_refused 78 = .ok (.bipush 70, 2) := by decide +kernel
theorem dL_refused_80 : decode cL_refused 80 = .ok (.iconst 5, 1) := by decide +kernel
theorem dL_refused_81 : decode cL_refused 81 = .ok (.invokestatic 131, 3) := by decide +kernel
theorem dL_refused_84 : decode cL_refused 84 = .ok (.ldc 17, 2) := by decide +kernel
theorem dL_refused_86 : decode cL_refused 86 = .ok (.if_icmp .ne 47, 3) := by decide +kernel
theorem dL_refused_89 : decode cL_refused 89 = .ok (.aload_n 0, 1) := by decide +kernel
theorem dL_refused_90 : decode cL_refused 90 = .ok (.bipush 8, 2) := by decide +kernel
theorem dL_refused_92 : decode cL_refused 92 = .ok (.iconst 0, 1) := by decide +kernel
theorem dL_refused_93 : decode cL_refused 93 = .ok (.invokestatic 108, 3) := by decide +kernel
theorem dL_refused_96 : decode cL_refused 96 = .ok (.ldc 31, 2) := by decide +kernel
theorem dL_refused_98 : decode cL_refused 98 = .ok (.if_icmp .ne 35, 3) := by decide +kernel
theorem dL_refused_101 : decode cL_refused 101 = .ok (.aload_n 0, 1) := by decide +kernel
theorem dL_refused_102 : decode cL_refused 102 = .ok (.bipush 9, 2) := by decide +kernel
theorem dL_refused_104 : decode cL_refused 104 = .ok (.bipush 9, 2) := by decide +kernel
theorem dL_refused_106 : decode cL_refused 106 = .ok (.invokestatic 111, 3) := by decide +kernel
theorem dL_refused_109 : decode cL_refused 109 = .ok (.ldc 31, 2) := by decide +kernel
theorem dL_refused_111 : decode cL_refused 111 = .ok (.if_icmp .ne 22, 3) := by decide +kernel
theorem dL_refused_114 : decode cL_refused 114 = .ok (.aload_n 0, 1) := by decide +kernel
theorem dL_refused_115 : decode cL_refused 115 = .ok (.iconst (-1), 1) := by decide +kernel
theorem dL_refused_116 : decode cL_refused 116 = .ok (.sipush 600, 3) := by decide +kernel
theorem dL_refused_119 : decode cL_refused 119 = .ok (.iconst 0, 1) := by decide +kernel
theorem dL_refused_120 : decode cL_refused 120 = .ok (.iconst 1, 1) := by decide +kernel
theorem dL_refused_121 : decode cL_refused 121 = .ok (.invokestatic 134, 3) := by decide +kernel
theorem dL_refused_124 : decode cL_refused 124 = .ok (.ldc 31, 2) := by decide +kernel
theorem dL_refused_126 : decode cL_refused 126 = .ok (.if_icmp .ne 7, 3) := by decide +kernel
theorem dL_refused_129 : decode cL_refused 129 = .ok (.iconst 1, 1) := by decide +kernel
theorem dL_refused_130 : decode cL_refused 130 = .ok (.goto 4, 3) := by decide +kernel
theorem dL_refused_133 : decode cL_refused 133 = .ok (.iconst 0, 1) := by decide +kernel
theorem dL_refused_134 : decode cL_refused 134 = .ok (.istore_n 3, 1) := by decide +kernel
theorem dL_refused_135 : decode cL_refused 135 = .ok (.iload_n 3, 1) := by decide +kernel
theorem dL_refused_136 : decode cL_refused 136 = .ok (.ifCond .eq 134, 3) := by decide +kernel
theorem dL_refused_139 : decode cL_refused 139 = .ok (.aload_n 0, 1) := by decide +kernel
theorem dL_refused_140 : decode cL_refused 140 = .ok (.iconst (-1), 1) := by decide +kernel
theorem dL_refused_141 : decode cL_refused 141 = .ok (.invokestatic 106, 3) := by decide +kernel
theorem dL_refused_144 : decode cL_refused 144 = .ok (.ldc 17, 2) := by decide +kernel
theorem dL_refused_146 : decode cL_refused 146 = .ok (.if_icmp .ne 124, 3) := by decide +kernel
theorem dL_refused_149 : decode cL_refused 149 = .ok (.aload_n 0, 1) := by decide +kernel
theorem dL_refused_150 : decode cL_refused 150 = .ok (.bipush 9, 2) := by decide +kernel
theorem dL_refused_152 : decode cL_refused 152 = .ok (.invokestatic 137, 3) := by decide +kernel
theorem dL_refused_155 : decode cL_refused 155 = .ok (.ldc2_w 59, 3) := by decide +kernel
theorem dL_refused_158 : decode cL_refused 158 = .ok (.dcmp .l, 1) := by decide +kernel
theorem dL_refused_159 : decode cL_refused 159 = .ok (.ifCond .ne 111, 3) := by decide +kernel
theorem dL_refused_162 : decode cL_refused 162 = .ok (.aload_n 0, 1) := by decide +kernel
theorem dL_refused_163 : decode cL_refused 163 = .ok (.bipush 9, 2) := by decide +kernel
theorem dL_refused_165 : decode cL_refused 165 = .ok (.iconst 0, 1) := by decide +kernel
theorem dL_refused_166 : decode cL_refused 166 = .ok (.iconst 1, 1) := by decide +kernel
theorem dL_refused_167 : decode cL_refused 167 = .ok (.invokestatic 140, 3) := by decide +kernel
theorem dL_refused_170 : decode cL_refused 170 = .ok (.ldc 31, 2) := by decide +kernel
theorem dL_refused_172 : decode cL_refused 172 = .ok (.if_icmp .ne 98, 3) := by decide +kernel
theorem dL_refused_175 : decode cL_refused 175 = .ok (.aload_n 0, 1) := by decide +kernel
theorem dL_refused_176 : decode cL_refused 176 = .ok (.bipush 60, 2) := by decide +kernel
theorem dL_refused_178 : decode cL_refused 178 = .ok (.iconst 0, 1) := by decide +kernel
theorem dL_refused_179 : decode cL_refused 179 = .ok (.invokestatic 113, 3) := by decide +kernel
theorem dL_refused_182 : decode cL_refused 182 = .ok (.ldc 31, 2) := by decide +kernel
theorem dL_refused_184 : decode cL_refused 184 = .ok (.if_icmp .ne 86, 3) := by decide +kernel
theorem dL_refused_187 : decode cL_refused 187 = .ok (.aload_n 0, 1) := by decide +kernel
theorem dL_refused_188 : decode cL_refused 188 = .ok (.iconst (-1), 1) := by decide +kernel
theorem dL_refused_189 : decode cL_refused 189 = .ok (.invokestatic 143, 3) := by decide +kernel
theorem dL_refused_192 : decode cL_refused 192 = .ok (.ldc 17, 2) := by decide +kernel
theorem dL_refused_194 : decode cL_refused 194 = .ok (.if_icmp .ne 76, 3) := by decide +kernel
theorem dL_refused_197 : decode cL_refused 197 = .ok (.aload_n 0, 1) := by decide +kernel
theorem dL_refused_198 : decode cL_refused 198 = .ok (.bipush 8, 2) := by decide +kernel
theorem dL_refused_200 : decode cL_refused 200 = .ok (.sipush 600, 3) := by decide +kernel
theorem dL_refused_203 : decode cL_refused 203 = .ok (.iconst 0, 1) := by decide +kernel
theorem dL_refused_204 : decode cL_refused 204 = .ok (.bipush 90, 2) := by decide +kernel
theorem dL_refused_206 : decode cL_refused 206 = .ok (.invokestatic 145, 3) := by decide +kernel
theorem dL_refused_209 : decode cL_refused 209 = .ok (.ldc 31, 2) := by decide +kernel
theorem dL_refused_211 : decode cL_refused 211 = .ok (.if_icmp .ne 59, 3) := by decide +kernel
theorem dL_refused_214 : decode cL_refused 214 = .ok (.aload_n 0, 1) := by decide +kernel
theorem dL_refused_215 : decode cL_refused 215 = .ok (.sipush 600, 3) := by decide +kernel
theorem dL_refused_218 : decode cL_refused 218 = .ok (.iconst (-1), 1) := by decide +kernel
theorem dL_refused_219 : decode cL_refused 219 = .ok (.bipush 90, 2) := by decide +kernel
theorem dL_refused_221 : decode cL_refused 221 = .ok (.invokestatic 147, 3) := by decide +kernel
theorem dL_refused_224 : decode cL_refused 224 = .ok (.ldc 17, 2) := by decide +kernel
theorem dL_refused_226 : decode cL_refused 226 = .ok (.if_icmp .ne 44, 3) := by decide +kernel
theorem dL_refused_229 : decode cL_refused 229 = .ok (.aload_n 0, 1) := by decide +kernel
theorem dL_refused_230 : decode cL_refused 230 = .ok (.sipush 600, 3) := by decide +kernel
theorem dL_refused_233 : decode cL_refused 233 = .ok (.iconst 0, 1) := by decide +kernel
theorem dL_refused_234 : decode cL_refused 234 = .ok (.sipush 200, 3) := by decide +kernel
theorem dL_refused_237 : decode cL_refused 237 = .ok (.invokestatic 149, 3) := by decide +kernel
theorem dL_refused_240 : decode cL_refused 240 = .ok (.ldc 17, 2) := by decide +kernel
theorem dL_refused_242 : decode cL_refused 242 = .ok (.if_icmp .ne 28, 3) := by decide +kernel
theorem dL_refused_245 : decode cL_refused 245 = .ok (.aload_n 0, 1) := by decide +kernel
theorem dL_refused_246 : decode cL_refused 246 = .ok (.sipush 200, 3) := by decide +kernel
theorem dL_refused_249 : decode cL_refused 249 = .ok (.invokestatic 151, 3) := by decide +kernel
theorem dL_refused_252 : decode cL_refused 252 = .ok (.ldc 17, 2) := by decide +kernel
theorem dL_refused_254 : decode cL_refused 254 = .ok (.if_icmp .ne 16, 3) := by decide +kernel
theorem dL_refused_257 : decode cL_refused 257 = .ok (.aload_n 0, 1) := by decide +kernel
theorem dL_refused_258 : decode cL_refused 258 = .ok (.invokestatic 115, 3) := by decide +kernel
theorem dL_refused_261 : decode cL_refused 261 = .ok (.lload_n 1, 1) := by decide +kernel
theorem dL_refused_262 : decode cL_refused 262 = .ok (.lcmp, 1) := by decide +kernel
theorem dL_refused_263 : decode cL_refused 263 = .ok (.ifCond .ne 7, 3) := by decide +kernel
theorem dL_refused_266 : decode cL_refused 266 = .ok (.iconst 1, 1) := by decide +kernel
theorem dL_refused_267 : decode cL_refused 267 = .ok (.goto 4, 3) := by decide +kernel
theorem dL_refused_270 : decode cL_refused 270 = .ok (.iconst 0, 1) := by decide +kernel
theorem dL_refused_271 : decode cL_refused 271 = .ok (.ireturn, 1) := by decide +kernel
theorem dL_areFit_0 : decode cL_areFit 0 = .ok (.sipush 500, 3) := by decide +kernel
theorem dL_areFit_3 : decode cL_areFit 3 = .ok (.iload_n 1, 1) := by decide +kernel
theorem dL_areFit_4 : decode cL_areFit 4 = .ok (.sipush 6501, 3) := by decide +kernel
theorem dL_areFit_7 : decode cL_areFit 7 = .ok (.invokestatic 153, 3) := by decide +kernel
theorem dL_areFit_10 : decode cL_areFit 10 = .ok (.iadd, 1) := by decide +kernel
theorem dL_areFit_11 : decode cL_areFit 11 = .ok (.istore_n 2, 1) := by decide +kernel
theorem dL_areFit_12 : decode cL_areFit 12 = .ok (.iload_n 1, 1) := by decide +kernel
theorem dL_areFit_13 : decode cL_areFit 13 = .ok (.bipush 6, 2) := by decide +kernel
theorem dL_areFit_15 : decode cL_areFit 15 = .ok (.ishr, 1) := by decide +kernel
theorem dL_areFit_16 : decode cL_areFit 16 = .ok (.bipush 101, 2) := by decide +kernel
theorem dL_areFit_18 : decode cL_areFit 18 = .ok (.invokestatic 153, 3) := by decide +kernel
theorem dL_areFit_21 : decode cL_areFit 21 = .ok (.istore_n 3, 1) := by decide +kernel
theorem dL_areFit_22 : decode cL_areFit 22 = .ok (.aload_n 0, 1) := by decide +kernel
theorem dL_areFit_23 : decode cL_areFit 23 = .ok (.invokevirtual 95, 3) := by decide +kernel
theorem dL_areFit_26 : decode cL_areFit 26 = .ok (.bipush 60, 2) := by decide +kernel
theorem dL_areFit_28 : decode cL_areFit 28 = .ok (.if_icmp .gt 95, 3) := by decide +kernel
theorem dL_areFit_31 : decode cL_areFit 31 = .ok (.aload_n 0, 1) := by decide +kernel
theorem dL_areFit_32 : decode cL_areFit 32 = .ok (.invokevirtual 98, 3) := by decide +kernel
theorem dL_areFit_35 : decode cL_areFit 35 = .ok (.aload_n 0, 1) := by decide +kernel
theorem dL_areFit_36 : decode cL_areFit 36 = .ok (.invokevirtual 92, 3) := by decide +kernel
theorem dL_areFit_39 : decode cL_areFit 39 = .ok (.aload_n 0, 1) := by decide +kernel
theorem dL_areFit_40 : decode cL_areFit 40 = .ok (.bipush 8, 2) := by decide +kernel
theorem dL_areFit_42 : decode cL_areFit 42 = .ok (.invokestatic 101, 3) := by decide +kernel
theorem dL_areFit_45 : decode cL_areFit 45 = .ok (.irem, 1) := by decide +kernel
theorem dL_areFit_46 : decode cL_areFit 46 = .ok (.if_icmp .ne 77, 3) := by decide +kernel
theorem dL_areFit_49 : decode cL_areFit 49 = .ok (.aload_n 0, 1) := by decide +kernel
theorem dL_areFit_50 : decode cL_areFit 50 = .ok (.iconst 1, 1) := by decide +kernel
theorem dL_areFit_51 : decode cL_areFit 51 = .ok (.invokestatic 106, 3) := by decide +kernel
theorem dL_areFit_54 : decode cL_areFit 54 = .ok (.ifCond .lt 69, 3) := by decide +kernel
theorem dL_areFit_57 : decode cL_areFit 57 = .ok (.aload_n 0, 1) := by decide +kernel
theorem dL_areFit_58 : decode cL_areFit 58 = .ok (.iconst 2, 1) := by decide +kernel
theorem dL_areFit_59 : decode cL_areFit 59 = .ok (.invokestatic 106, 3) := by decide +kernel
theorem dL_areFit_62 : decode cL_areFit 62 = .ok (.ifCond .lt 61, 3) := by decide +kernel
theorem dL_areFit_65 : decode cL_areFit 65 = .ok (.aload_n 0, 1) := by decide +kernel
theorem dL_areFit_66 : decode cL_areFit 66 = .ok (.iconst 1, 1) := by decide +kernel
theorem dL_areFit_67 : decode cL_areFit 67 = .ok (.invokestatic 106, 3) := by decide +kernel
theorem dL_areFit_70 : decode cL_areFit 70 = .ok (.ifCond .eq 11, 3) := by decide +kernel
theorem dL_areFit_73 : decode cL_areFit 73 = .ok (.aload_n 0, 1) := by decide +kernel
theorem dL_areFit_74 : decode cL_areFit 74 = .ok (.iconst 2, 1) := by decide +kernel
theorem dL_areFit_75 : decode cL_areFit 75 = .ok (.invokestatic 106, 3) := by decide +kernel
theorem dL_areFit_78 : decode cL_areFit 78 = .ok (.ifCond .ne 45, 3) := by decide +kernel
theorem dL_areFit_81 : decode cL_areFit 81 = .ok (.aload_n 0, 1) := by decide +kernel
theorem dL_areFit_82 : decode cL_areFit 82 = .ok (.iconst 4, 1) := by decide +kernel
theorem dL_areFit_83 : decode cL_areFit 83 = .ok (.invokestatic 106, 3) := by decide +kernel
theorem dL_areFit_86 : decode cL_areFit 86 = .ok (.iconst (-1), 1) := by decide +kernel
theorem dL_areFit_87 : decode cL_areFit 87 = .ok (.if_icmp .lt 36, 3) := by decide +kernel
theorem dL_areFit_90 : decode cL_areFit 90 = .ok (.aload_n 0, 1) := by decide +kernel
theorem dL_areFit_91 : decode cL_areFit 91 = .ok (.iconst 4, 1) := by decide +kernel
theorem dL_areFit_92 : decode cL_areFit 92 = .ok (.invokestatic 106, 3) := by decide +kernel
theorem dL_areFit_95 : decode cL_areFit 95 = .ok (.bipush 24, 2) := by decide +kernel
theorem dL_areFit_97 : decode cL_areFit 97 = .ok (.if_icmp .ge 26, 3) := by decide +kernel
theorem dL_areFit_100 : decode cL_areFit 100 = .ok (.aload_n 0, 1) := by decide +kernel
theorem dL_areFit_101 : decode cL_areFit 101 = .ok (.iconst 0, 1) := by decide +kernel
theorem dL_areFit_102 : decode cL_areFit 102 = .ok (.invokestatic 106, 3) := by decide +kernel
theorem dL_areFit_105 : decode cL_areFit 105 = .ok (.iconst 1, 1) := by decide +kernel
theorem dL_areFit_106 : decode cL_areFit 106 = .ok (.if_icmp .eq 13, 3) := by decide +kernel
theorem dL_areFit_109 : decode cL_areFit 109 = .ok (.aload_n 0, 1) := by decide +kernel
theorem dL_areFit_110 : decode cL_areFit 110 = .ok (.iconst 1, 1) := by decide +kernel
theorem dL_areFit_111 : decode cL_areFit 111 = .ok (.invokestatic 106, 3) := by decide +kernel
theorem dL_areFit_114 : decode cL_areFit 114 = .ok (.bipush 20, 2) := by decide +kernel
theorem dL_areFit_116 : decode cL_areFit 116 = .ok (.if_icmp .ge 7, 3) := by decide +kernel
theorem dL_areFit_119 : decode cL_areFit 119 = .ok (.iconst 1, 1) := by decide +kernel
theorem dL_areFit_120 : decode cL_areFit 120 = .ok (.goto 4, 3) := by decide +kernel
theorem dL_areFit_123 : decode cL_areFit 123 = .ok (.iconst 0, 1) := by decide +kernel
theorem dL_areFit_124 : decode cL_areFit 124 = .ok (.istore 4, 2) := by decide +kernel
theorem dL_areFit_126 : decode cL_areFit 126 = .ok (.iconst 0, 1) := by decide +kernel
theorem dL_areFit_127 : decode cL_areFit 127 = .ok (.istore 5, 2) := by decide +kernel
theorem dL_areFit_129 : decode cL_areFit 129 = .ok (.iconst 0, 1) := by decide +kernel
theorem dL_areFit_130 : decode cL_areFit 130 = .ok (.istore 6, 2) := by decide +kernel
theorem dL_areFit_132 : decode cL_areFit 132 = .ok (.iload 6, 2) := by decide +kernel
theorem dL_areFit_134 : decode cL_areFit 134 = .ok (.aload_n 0, 1) := by decide +kernel
theorem dL_areFit_135 : decode cL_areFit 135 = .ok (.bipush 8, 2) := by decide +kernel
theorem dL_areFit_137 : decode cL_areFit 137 = .ok (.invokestatic 101, 3) := by decide +kernel
theorem dL_areFit_140 : decode cL_areFit 140 = .ok (.if_icmp .ge 218, 3) := by decide +kernel
theorem dL_areFit_143 : decode cL_areFit 143 = .ok (.iload 4, 2) := by decide +kernel
theorem dL_areFit_145 : decode cL_areFit 145 = .ok (.ifCond .eq 213, 3) := by decide +kernel
theorem dL_areFit_148 : decode cL_areFit 148 = .ok (.aload_n 0, 1) := by decide +kernel
theorem dL_areFit_149 : decode cL_areFit 149 = .ok (.iload 6, 2) := by decide +kernel
theorem dL_areFit_151 : decode cL_areFit 151 = .ok (.iload_n 2, 1) := by decide +kernel
theorem dL_areFit_152 : decode cL_areFit 152 = .ok (.iload_n 3, 1) := by decide +kernel
theorem dL_areFit_153 : decode cL_areFit 153 = .ok (.iconst 0, 1) := by decide +kernel
theorem dL_areFit_154 : decode cL_areFit 154 = .ok (.invokestatic 134, 3) := by decide +kernel
theorem dL_areFit_157 : decode cL_areFit 157 = .ok (.istore 7, 2) := by decide +kernel
theorem dL_areFit_159 : decode cL_areFit 159 = .ok (.iload 5, 2) := by decide +kernel
theorem dL_areFit_161 : decode cL_areFit 161 = .ok (.aload_n 0, 1) := by decide +kernel
theorem dL_areFit_162 : decode cL_areFit 162 = .ok (.iload 6, 2) := by decide +kernel
theorem dL_areFit_164 : decode cL_areFit 164 = .ok (.iconst 4, 1) := by decide +kernel
theorem dL_areFit_165 : decode cL_areFit 165 = .ok (.invokestatic 108, 3) := by decide +kernel
theorem dL_areFit_168 : decode cL_areFit 168 = .ok (.iadd, 1) := by decide +kernel
theorem dL_areFit_169 : decode cL_areFit 169 = .ok (.istore 5, 2) := by decide +kernel
theorem dL_areFit_171 : decode cL_areFit 171 = .ok (.aload_n 0, 1) := by decide +kernel
theorem dL_areFit_172 : decode cL_areFit 172 = .ok (.iload 6, 2) := by decide +kernel
theorem dL_areFit_174 : decode cL_areFit 174 = .ok (.iconst 0, 1) := by decide +kernel
theorem dL_areFit_175 : decode cL_areFit 175 = .ok (.invokestatic 108, 3) := by decide +kernel
theorem dL_areFit_178 : decode cL_areFit 178 = .ok (.ifCond .lt 103, 3) := by decide +kernel
theorem dL_areFit_181 : decode cL_areFit 181 = .ok (.aload_n 0, 1) := by decide +kernel
theorem dL_areFit_182 : decode cL_areFit 182 = .ok (.iload 6, 2) := by decide +kernel
theorem dL_areFit_184 : decode cL_areFit 184 = .ok (.iconst 0, 1) := by decide +kernel
theorem dL_areFit_185 : decode cL_areFit 185 = .ok (.invokestatic 108, 3) := by decide +kernel
theorem dL_areFit_188 : decode cL_areFit 188 = .ok (.sipush 200, 3) := by decide +kernel
theorem dL_areFit_191 : decode cL_areFit 191 = .ok (.if_icmp .gt 90, 3) := by decide +kernel
theorem dL_areFit_194 : decode cL_areFit 194 = .ok (.aload_n 0, 1) := by decide +kernel
theorem dL_areFit_195 : decode cL_areFit 195 = .ok (.iload 6, 2) := by decide +kernel
theorem dL_areFit_197 : decode cL_areFit 197 = .ok (.iconst 1, 1) := by decide +kernel
theorem dL_areFit_198 : decode cL_areFit 198 = .ok (.invokestatic 108, 3) := by decide +kernel
theorem dL_areFit_201 : decode cL_areFit 201 = .ok (.ifCond .lt 80, 3) := by decide +kernel
theorem dL_areFit_204 : decode cL_areFit 204 = .ok (.aload_n 0, 1) := by decide +kernel
theorem dL_areFit_205 : decode cL_areFit 205 = .ok (.iload 6, 2) := by decide +kernel
theorem dL_areFit_207 : decode cL_areFit 207 = .ok (.iconst 1, 1) := by decide +kernel
theorem dL_areFit_208 : decode cL_areFit 208 = .ok (.invokestatic 108, 3) := by decide +kernel
theorem dL_areFit_211 : decode cL_areFit 211 = .ok (.ldc 156, 2) := by decide +kernel
theorem dL_areFit_213 : decode cL_areFit 213 = .ok (.if_icmp .gt 68, 3) := by decide +kernel
theorem dL_areFit_216 : decode cL_areFit 216 = .ok (.aload_n 0, 1) := by decide +kernel
theorem dL_areFit_217 : decode cL_areFit 217 = .ok (.iload 6, 2) := by decide +kernel
theorem dL_areFit_219 : decode cL_areFit 219 = .ok (.iconst 2, 1) := by decide +kernel
theorem dL_areFit_220 : decode cL_areFit 220 = .ok (.invokestatic 108, 3) := by decide +kernel
theorem dL_areFit_223 : decode cL_areFit 223 = .ok (.ifCond .lt 58, 3) := by decide +kernel
theorem dL_areFit_226 : decode cL_areFit 226 = .ok (.aload_n 0, 1) := by decide +kernel
theorem dL_areFit_227 : decode cL_areFit 227 = .ok (.iload 6, 2) := by decide +kernel
theorem dL_areFit_229 : decode cL_areFit 229 = .ok (.iconst 3, 1) := by decide +kernel
theorem dL_areFit_230 : decode cL_areFit 230 = .ok (.invokestatic 108, 3) := by decide +kernel
theorem dL_areFit_233 : decode cL_areFit 233 = .ok (.bipush 50, 2) := by decide +kernel
theorem dL_areFit_235 : decode cL_areFit 235 = .ok (.if_icmp .lt 46, 3) := by decide +kernel
theorem dL_areFit_238 : decode cL_areFit 238 = .ok (.iload 7, 2) := by decide +kernel
theorem dL_areFit_240 : decode cL_areFit 240 = .ok (.ifCond .lt 41, 3) := by decide +kernel
theorem dL_areFit_243 : decode cL_areFit 243 = .ok (.iload 7, 2) := by decide +kernel
theorem dL_areFit_245 : decode cL_areFit 245 = .ok (.aload_n 0, 1) := by decide +kernel
theorem dL_areFit_246 : decode cL_areFit 246 = .ok (.iconst 3, 1) := by decide +kernel
theorem dL_areFit_247 : decode cL_areFit 247 = .ok (.invokestatic 101, 3) := by decide +kernel
theorem dL_areFit_250 : decode cL_areFit 250 = .ok (.if_icmp .gt 31, 3) := by decide +kernel
theorem dL_areFit_253 : decode cL_areFit 253 = .ok (.aload_n 0, 1) := by decide +kernel
theorem dL_areFit_254 : decode cL_areFit 254 = .ok (.iload 6, 2) := by decide +kernel
theorem dL_areFit_256 : decode cL_areFit 256 = .ok (.iload_n 2, 1) := by decide +kernel
theorem dL_areFit_257 : decode cL_areFit 257 = .ok (.iload_n 3, 1) := by decide +kernel
theorem dL_areFit_258 : decode cL_areFit 258 = .ok (.iconst 1, 1) := by decide +kernel
theorem dL_areFit_259 : decode cL_areFit 259 = .ok (.invokestatic 134, 3) := by decide +kernel
theorem dL_areFit_262 : decode cL_areFit 262 = .ok (.iload 7, 2) := by decide +kernel
theorem dL_areFit_264 : decode cL_areFit 264 = .ok (.iadd, 1) := by decide +kernel
theorem dL_areFit_265 : decode cL_areFit 265 = .ok (.bipush 100, 2) := by decide +kernel
theorem dL_areFit_267 : decode cL_areFit 267 = .ok (.iload_n 2, 1) := by decide +kernel
theorem dL_areFit_268 : decode cL_areFit 268 = .ok (.bipush 50, 2) := by decide +kernel
theorem dL_areFit_270 : decode cL_areFit 270 = .ok (.idiv, 1) := by decide +kernel
theorem dL_areFit_271 : decode cL_areFit 271 = .ok (.iadd, 1) := by decide +kernel
theorem dL_areFit_272 : decode cL_areFit 272 = .ok (.iload_n 3, 1) := by decide +kernel
theorem dL_areFit_273 : decode cL_areFit 273 = .ok (.isub, 1) := by decide +kernel
theorem dL_areFit_274 : decode cL_areFit 274 = .ok (.if_icmp .ne 7, 3) := by decide +kernel
theorem dL_areFit_277 : decode cL_areFit 277 = .ok (.iconst 1, 1) := by decide +kernel
theorem dL_areFit_278 : decode cL_areFit 278 = .ok (.goto 4, 3) := by decide +kernel
theorem dL_areFit_281 : decode cL_areFit 281 = .ok (.iconst 0, 1) := by decide +kernel
theorem dL_areFit_282 : decode cL_areFit 282 = .ok (.istore 4, 2) := by decide +kernel
theorem dL_areFit_284 : decode cL_areFit 284 = .ok (.iload 4, 2) := by decide +kernel
theorem dL_areFit_286 : decode cL_areFit 286 = .ok (.ifCond .eq 63, 3) := by decide +kernel
theorem dL_areFit_289 : decode cL_areFit 289 = .ok (.aload_n 0, 1) := by decide +kernel
theorem dL_areFit_290 : decode cL_areFit 290 = .ok (.iload 6, 2) := by decide +kernel
theorem dL_areFit_292 : decode cL_areFit 292 = .ok (.iload_n 2, 1) := by decide +kernel
theorem dL_areFit_293 : decode cL_areFit 293 = .ok (.iload_n 3, 1) := by decide +kernel
theorem dL_areFit_294 : decode cL_areFit 294 = .ok (.bipush 90, 2) := by decide +kernel
theorem dL_areFit_296 : decode cL_areFit 296 = .ok (.invokestatic 145, 3) := by decide +kernel
theorem dL_areFit_299 : decode cL_areFit 299 = .ok (.aload_n 0, 1) := by decide +kernel
theorem dL_areFit_300 : decode cL_areFit 300 = .ok (.iload 6, 2) := by decide +kernel
theorem dL_areFit_302 : decode cL_areFit 302 = .ok (.iload_n 2, 1) := by decide +kernel
theorem dL_areFit_303 : decode cL_areFit 303 = .ok (.iload_n 3, 1) := by decide +kernel
theorem dL_areFit_304 : decode cL_areFit 304 = .ok (.iconst 1, 1) := by decide +kernel
theorem dL_areFit_305 : decode cL_areFit 305 = .ok (.invokestatic 134, 3) := by decide +kernel
theorem dL_areFit_308 : decode cL_areFit 308 = .ok (.aload_n 0, 1) := by decide +kernel
theorem dL_areFit_309 : decode cL_areFit 309 = .ok (.iconst (-1), 1) := by decide +kernel
theorem dL_areFit_310 : decode cL_areFit 310 = .ok (.iload_n 2, 1) := by decide +kernel
theorem dL_areFit_311 : decode cL_areFit 311 = .ok (.iload_n 3, 1) := by decide +kernel
theorem dL_areFit_312 : decode cL_areFit 312 = .ok (.bipush 90, 2) := by decide +kernel
theorem dL_areFit_314 : decode cL_areFit 314 = .ok (.invokestatic 145, 3) := by decide +kernel
theorem dL_areFit_317 : decode cL_areFit 317 = .ok (.isub, 1) := by decide +kernel
theorem dL_areFit_318 : decode cL_areFit 318 = .ok (.if_icmp .ne 31, 3) := by decide +kernel
theorem dL_areFit_321 : decode cL_areFit 321 = .ok (.aload_n 0, 1) := by decide +kernel
theorem dL_areFit_322 : decode cL_areFit 322 = .ok (.iconst (-1), 1) := by decide +kernel
theorem dL_areFit_323 : decode cL_areFit 323 = .ok (.iload_n 2, 1) := by decide +kernel
theorem dL_areFit_324 : decode cL_areFit 324 = .ok (.iload_n 3, 1) := by decide +kernel
theorem dL_areFit_325 : decode cL_areFit 325 = .ok (.bipush 91, 2) := by decide +kernel
theorem dL_areFit_327 : decode cL_areFit 327 = .ok (.invokestatic 145, 3) := by decide +kernel
theorem dL_areFit_330 : decode cL_areFit 330 = .ok (.aload_n 0, 1) := by decide +kernel
theorem dL_areFit_331 : decode cL_areFit 331 = .ok (.iconst (-1), 1) := by decide +kernel
theorem dL_areFit_332 : decode cL_areFit 332 = .ok (.iload_n 2, 1) := by decide +kernel
theorem dL_areFit_333 : decode cL_areFit 333 = .ok (.iload_n 3, 1) := by decide +kernel
theorem dL_areFit_334 : decode cL_areFit 334 = .ok (.bipush 90, 2) := by decide +kernel
theorem dL_areFit_336 : decode cL_areFit 336 = .ok (.invokestatic 145, 3) := by decide +kernel
theorem dL_areFit_339 : decode cL_areFit 339 = .ok (.isub, 1) := by decide +kernel
theorem dL_areFit_340 : decode cL_areFit 340 = .ok (.bipush 8, 2) := by decide +kernel
theorem dL_areFit_342 : decode cL_areFit 342 = .ok (.if_icmp .ne 7, 3) := by decide +kernel
theorem dL_areFit_345 : decode cL_areFit 345 = .ok (.iconst 1, 1) := by decide +kernel
theorem dL_areFit_346 : decode cL_areFit 346 = .ok (.goto 4, 3) := by decide +kernel
theorem dL_areFit_349 : decode cL_areFit 349 = .ok (.iconst 0, 1) := by decide +kernel
theorem dL_areFit_350 : decode cL_areFit 350 = .ok (.istore 4, 2) := by decide +kernel
theorem dL_areFit_352 : decode cL_areFit 352 = .ok (.iinc 6 1, 3) := by decide +kernel
theorem dL_areFit_355 : decode cL_areFit 355 = .ok (.goto (-223), 3) := by decide +kernel
theorem dL_areFit_358 : decode cL_areFit 358 = .ok (.iconst 0, 1) := by decide +kernel
theorem dL_areFit_359 : decode cL_areFit 359 = .ok (.istore 6, 2) := by decide +kernel
theorem dL_areFit_361 : decode cL_areFit 361 = .ok (.iload 6, 2) := by decide +kernel
theorem dL_areFit_363 : decode cL_areFit 363 = .ok (.bipush 24, 2) := by decide +kernel
theorem dL_areFit_365 : decode cL_areFit 365 = .ok (.if_icmp .ge 103, 3) := by decide +kernel
theorem dL_areFit_368 : decode cL_areFit 368 = .ok (.iload 4, 2) := by decide +kernel
theorem dL_areFit_370 : decode cL_areFit 370 = .ok (.ifCond .eq 98, 3) := by decide +kernel
theorem dL_areFit_373 : decode cL_areFit 373 = .ok (.aload_n 0, 1) := by decide +kernel
theorem dL_areFit_374 : decode cL_areFit 374 = .ok (.iload 6, 2) := by decide +kernel
theorem dL_areFit_376 : decode cL_areFit 376 = .ok (.iconst 4, 1) := by decide +kernel
theorem dL_areFit_377 : decode cL_areFit 377 = .ok (.idiv, 1) := by decide +kernel
theorem dL_areFit_378 : decode cL_areFit 378 = .ok (.iload 6, 2) := by decide +kernel
theorem dL_areFit_380 : decode cL_areFit 380 = .ok (.iconst 4, 1) := by decide +kernel
theorem dL_areFit_381 : decode cL_areFit 381 = .ok (.irem, 1) := by decide +kernel
theorem dL_areFit_382 : decode cL_areFit 382 = .ok (.invokestatic 111, 3) := by decide +kernel
theorem dL_areFit_385 : decode cL_areFit 385 = .ok (.ifCond .lt 74, 3) := by decide +kernel
theorem dL_areFit_388 : decode cL_areFit 388 = .ok (.aload_n 0, 1) := by decide +kernel
theorem dL_areFit_389 : decode cL_areFit 389 = .ok (.iload 6, 2) := by decide +kernel
theorem dL_areFit_391 : decode cL_areFit 391 = .ok (.iconst 4, 1) := by decide +kernel
theorem dL_areFit_392 : decode cL_areFit 392 = .ok (.idiv, 1) := by decide +kernel
theorem dL_areFit_393 : decode cL_areFit 393 = .ok (.iload 6, 2) := by decide +kernel
theorem dL_areFit_395 : decode cL_areFit 395 = .ok (.iconst 4, 1) := by decide +kernel
theorem dL_areFit_396 : decode cL_areFit 396 = .ok (.irem, 1) := by decide +kernel
theorem dL_areFit_397 : decode cL_areFit 397 = .ok (.invokestatic 111, 3) := by decide +kernel
theorem dL_areFit_400 : decode cL_areFit 400 = .ok (.bipush 100, 2) := by decide +kernel
theorem dL_areFit_402 : decode cL_areFit 402 = .ok (.if_icmp .gt 57, 3) := by decide +kernel
theorem dL_areFit_405 : decode cL_areFit 405 = .ok (.aload_n 0, 1) := by decide +kernel
theorem dL_areFit_406 : decode cL_areFit 406 = .ok (.iload 6, 2) := by decide +kernel
theorem dL_areFit_408 : decode cL_areFit 408 = .ok (.iconst 4, 1) := by decide +kernel
theorem dL_areFit_409 : decode cL_areFit 409 = .ok (.idiv, 1) := by decide +kernel
theorem dL_areFit_410 : decode cL_areFit 410 = .ok (.iconst 1, 1) := by decide +kernel
theorem dL_areFit_411 : decode cL_areFit 411 = .ok (.iconst 1, 1) := by decide +kernel
theorem dL_areFit_412 : decode cL_areFit 412 = .ok (.invokestatic 140, 3) := by decide +kernel
theorem dL_areFit_415 : decode cL_areFit 415 = .ok (.aload_n 0, 1) := by decide +kernel
theorem dL_areFit_416 : decode cL_areFit 416 = .ok (.iload 6, 2) := by decide +kernel
theorem dL_areFit_418 : decode cL_areFit 418 = .ok (.iconst 4, 1) := by decide +kernel
theorem dL_areFit_419 : decode cL_areFit 419 = .ok (.idiv, 1) := by decide +kernel
theorem dL_areFit_420 : decode cL_areFit 420 = .ok (.iload 6, 2) := by decide +kernel
theorem dL_areFit_422 : decode cL_areFit 422 = .ok (.iconst 4, 1) := by decide +kernel
theorem dL_areFit_423 : decode cL_areFit 423 = .ok (.irem, 1) := by decide +kernel
theorem dL_areFit_424 : decode cL_areFit 424 = .ok (.invokestatic 111, 3) := by decide +kernel
theorem dL_areFit_427 : decode cL_areFit 427 = .ok (.if_icmp .lt 32, 3) := by decide +kernel
theorem dL_areFit_430 : decode cL_areFit 430 = .ok (.aload_n 0, 1) := by decide +kernel
theorem dL_areFit_431 : decode cL_areFit 431 = .ok (.iload 6, 2) := by decide +kernel
theorem dL_areFit_433 : decode cL_areFit 433 = .ok (.iconst 4, 1) := by decide +kernel
theorem dL_areFit_434 : decode cL_areFit 434 = .ok (.irem, 1) := by decide +kernel
theorem dL_areFit_435 : decode cL_areFit 435 = .ok (.iconst 0, 1) := by decide +kernel
theorem dL_areFit_436 : decode cL_areFit 436 = .ok (.iconst 0, 1) := by decide +kernel
theorem dL_areFit_437 : decode cL_areFit 437 = .ok (.invokestatic 140, 3) := by decide +kernel
theorem dL_areFit_440 : decode cL_areFit 440 = .ok (.aload_n 0, 1) := by decide +kernel
theorem dL_areFit_441 : decode cL_areFit 441 = .ok (.iload 6, 2) := by decide +kernel
theorem dL_areFit_443 : decode cL_areFit 443 = .ok (.iconst 4, 1) := by decide +kernel
theorem dL_areFit_444 : decode cL_areFit 444 = .ok (.idiv, 1) := by decide +kernel
theorem dL_areFit_445 : decode cL_areFit 445 = .ok (.iload 6, 2) := by decide +kernel
theorem dL_areFit_447 : decode cL_areFit 447 = .ok (.iconst 4, 1) := by decide +kernel
theorem dL_areFit_448 : decode cL_areFit 448 = .ok (.irem, 1) := by decide +kernel
theorem dL_areFit_449 : decode cL_areFit 449 = .ok (.invokestatic 111, 3) := by decide +kernel
theorem dL_areFit_452 : decode cL_areFit 452 = .ok (.if_icmp .gt 7, 3) := by decide +kernel
theorem dL_areFit_455 : decode cL_areFit 455 = .ok (.iconst 1, 1) := by decide +kernel
theorem dL_areFit_456 : decode cL_areFit 456 = .ok (.goto 4, 3) := by decide +kernel
theorem dL_areFit_459 : decode cL_areFit 459 = .ok (.iconst 0, 1) := by decide +kernel
theorem dL_areFit_460 : decode cL_areFit 460 = .ok (.istore 4, 2) := by decide +kernel
theorem dL_areFit_462 : decode cL_areFit 462 = .ok (.iinc 6 1, 3) := by decide +kernel
theorem dL_areFit_465 : decode cL_areFit 465 = .ok (.goto (-104), 3) := by decide +kernel
theorem dL_areFit_468 : decode cL_areFit 468 = .ok (.iconst 0, 1) := by decide +kernel
theorem dL_areFit_469 : decode cL_areFit 469 = .ok (.istore 6, 2) := by decide +kernel
theorem dL_areFit_471 : decode cL_areFit 471 = .ok (.iconst 0, 1) := by decide +kernel
theorem dL_areFit_472 : decode cL_areFit 472 = .ok (.istore 7, 2) := by decide +kernel
theorem dL_areFit_474 : decode cL_areFit 474 = .ok (.iload 7, 2) := by decide +kernel
theorem dL_areFit_476 : decode cL_areFit 476 = .ok (.iconst 5, 1) := by decide +kernel
theorem dL_areFit_477 : decode cL_areFit 477 = .ok (.if_icmp .ge 20, 3) := by decide +kernel
theorem dL_areFit_480 : decode cL_areFit 480 = .ok (.iload 6, 2) := by decide +kernel
theorem dL_areFit_482 : decode cL_areFit 482 = .ok (.aload_n 0, 1) := by decide +kernel
theorem dL_areFit_483 : decode cL_areFit 483 = .ok (.iload 7, 2) := by decide +kernel
theorem dL_areFit_485 : decode cL_areFit 485 = .ok (.invokestatic 143, 3) := by decide +kernel
theorem dL_areFit_488 : decode cL_areFit 488 = .ok (.iadd, 1) := by decide +kernel
theorem dL_areFit_489 : decode cL_areFit 489 = .ok (.istore 6, 2) := by decide +kernel
theorem dL_areFit_491 : decode cL_areFit 491 = .ok (.iinc 7 1, 3) := by decide +kernel
theorem dL_areFit_494 : decode cL_areFit 494 = .ok (.goto (-20), 3) := by decide +kernel
theorem dL_areFit_497 : decode cL_areFit 497 = .ok (.iconst 1, 1) := by decide +kernel
theorem dL_areFit_498 : decode cL_areFit 498 = .ok (.istore 7, 2) := by decide +kernel
theorem dL_areFit_500 : decode cL_areFit 500 = .ok (.iload 7, 2) := by decide +kernel
theorem dL_areFit_502 : decode cL_areFit 502 = .ok (.aload_n 0, 1) := by decide +kernel
theorem dL_areFit_503 : decode cL_areFit 503 = .ok (.invokevirtual 95, 3) := by decide +kernel
theorem dL_areFit_506 : decode cL_areFit 506 = .ok (.if_icmp .ge 54, 3) := by decide +kernel
theorem dL_areFit_509 : decode cL_areFit 509 = .ok (.iload 4, 2) := by decide +kernel
theorem dL_areFit_511 : decode cL_areFit 511 = .ok (.ifCond .eq 49, 3) := by decide +kernel
theorem dL_areFit_514 : decode cL_areFit 514 = .ok (.aload_n 0, 1) := by decide +kernel
theorem dL_areFit_515 : decode cL_areFit 515 = .ok (.iload 7, 2) := by decide +kernel
theorem dL_areFit_517 : decode cL_areFit 517 = .ok (.iconst 1, 1) := by decide +kernel
theorem dL_areFit_518 : decode cL_areFit 518 = .ok (.isub, 1) := by decide +kernel
theorem dL_areFit_519 : decode cL_areFit 519 = .ok (.iconst 2, 1) := by decide +kernel
theorem dL_areFit_520 : decode cL_areFit 520 = .ok (.invokestatic 113, 3) := by decide +kernel
theorem dL_areFit_523 : decode cL_areFit 523 = .ok (.aload_n 0, 1) := by decide +kernel
theorem dL_areFit_524 : decode cL_areFit 524 = .ok (.iload 7, 2) := by decide +kernel
theorem dL_areFit_526 : decode cL_areFit 526 = .ok (.iconst 2, 1) := by decide +kernel
theorem dL_areFit_527 : decode cL_areFit 527 = .ok (.invokestatic 113, 3) := by decide +kernel
theorem dL_areFit_530 : decode cL_areFit 530 = .ok (.if_icmp .gt 21, 3) := by decide +kernel
theorem dL_areFit_533 : decode cL_areFit 533 = .ok (.aload_n 0, 1) := by decide +kernel
theorem dL_areFit_534 : decode cL_areFit 534 = .ok (.iload 7, 2) := by decide +kernel
theorem dL_areFit_536 : decode cL_areFit 536 = .ok (.iconst 2, 1) := by decide +kernel
theorem dL_areFit_537 : decode cL_areFit 537 = .ok (.invokestatic 113, 3) := by decide +kernel
theorem dL_areFit_540 : decode cL_areFit 540 = .ok (.aload_n 0, 1) := by decide +kernel
theorem dL_areFit_541 : decode cL_areFit 541 = .ok (.invokevirtual 92, 3) := by decide +kernel
theorem dL_areFit_544 : decode cL_areFit 544 = .ok (.if_icmp .ge 7, 3) := by decide +kernel
theorem dL_areFit_547 : decode cL_areFit 547 = .ok (.iconst 1, 1) := by decide +kernel
theorem dL_areFit_548 : decode cL_areFit 548 = .ok (.goto 4, 3) := by decide +kernel
theorem dL_areFit_551 : decode cL_areFit 551 = .ok (.iconst 0, 1) := by decide +kernel
theorem dL_areFit_552 : decode cL_areFit 552 = .ok (.istore 4, 2) := by decide +kernel
theorem dL_areFit_554 : decode cL_areFit 554 = .ok (.iinc 7 1, 3) := by decide +kernel
theorem dL_areFit_557 : decode cL_areFit 557 = .ok (.goto (-57), 3) := by decide +kernel
theorem dL_areFit_560 : decode cL_areFit 560 = .ok (.iload 4, 2) := by decide +kernel
theorem dL_areFit_562 : decode cL_areFit 562 = .ok (.ifCond .eq 52, 3) := by decide +kernel
theorem dL_areFit_565 : decode cL_areFit 565 = .ok (.iload 6, 2) := by decide +kernel
theorem dL_areFit_567 : decode cL_areFit 567 = .ok (.aload_n 0, 1) := by decide +kernel
theorem dL_areFit_568 : decode cL_areFit 568 = .ok (.invokevirtual 95, 3) := by decide +kernel
theorem dL_areFit_571 : decode cL_areFit 571 = .ok (.if_icmp .ne 43, 3) := by decide +kernel
theorem dL_areFit_574 : decode cL_areFit 574 = .ok (.aload_n 0, 1) := by decide +kernel
theorem dL_areFit_575 : decode cL_areFit 575 = .ok (.iconst 0, 1) := by decide +kernel
theorem dL_areFit_576 : decode cL_areFit 576 = .ok (.invokestatic 143, 3) := by decide +kernel
theorem dL_areFit_579 : decode cL_areFit 579 = .ok (.iload 5, 2) := by decide +kernel
theorem dL_areFit_581 : decode cL_areFit 581 = .ok (.if_icmp .gt 33, 3) := by decide +kernel
theorem dL_areFit_584 : decode cL_areFit 584 = .ok (.iload 5, 2) := by decide +kernel
theorem dL_areFit_586 : decode cL_areFit 586 = .ok (.aload_n 0, 1) := by decide +kernel
theorem dL_areFit_587 : decode cL_areFit 587 = .ok (.invokevirtual 92, 3) := by decide +kernel
theorem dL_areFit_590 : decode cL_areFit 590 = .ok (.if_icmp .gt 24, 3) := by decide +kernel
theorem dL_areFit_593 : decode cL_areFit 593 = .ok (.aload_n 0, 1) := by decide +kernel
theorem dL_areFit_594 : decode cL_areFit 594 = .ok (.invokevirtual 157, 3) := by decide +kernel
theorem dL_areFit_597 : decode cL_areFit 597 = .ok (.ifCond .lt 17, 3) := by decide +kernel
theorem dL_areFit_600 : decode cL_areFit 600 = .ok (.aload_n 0, 1) := by decide +kernel
theorem dL_areFit_601 : decode cL_areFit 601 = .ok (.invokevirtual 157, 3) := by decide +kernel
theorem dL_areFit_604 : decode cL_areFit 604 = .ok (.sipush 200, 3) := by decide +kernel
theorem dL_areFit_607 : decode cL_areFit 607 = .ok (.if_icmp .gt 7, 3) := by decide +kernel
theorem dL_areFit_610 : decode cL_areFit 610 = .ok (.iconst 1, 1) := by decide +kernel
theorem dL_areFit_611 : decode cL_areFit 611 = .ok (.goto 4, 3) := by decide +kernel
theorem dL_areFit_614 : decode cL_areFit 614 = .ok (.iconst 0, 1) := by decide +kernel
theorem dL_areFit_615 : decode cL_areFit 615 = .ok (.ireturn, 1) := by decide +kernel
theorem dL_isLoud_0 : decode cL_isLoud 0 = .ok (.aload_n 0, 1) := by decide +kernel
theorem dL_isLoud_1 : decode cL_isLoud 1 = .ok (.invokestatic 115, 3) := by decide +kernel
theorem dL_isLoud_4 : decode cL_isLoud 4 = .ok (.lstore 5, 2) := by decide +kernel
theorem dL_isLoud_6 : decode cL_isLoud 6 = .ok (.iload_n 3, 1) := by decide +kernel
theorem dL_isLoud_7 : decode cL_isLoud 7 = .ok (.iload 4, 2) := by decide +kernel
theorem dL_isLoud_9 : decode cL_isLoud 9 = .ok (.if_icmp .ge 7, 3) := by decide +kernel
theorem dL_isLoud_12 : decode cL_isLoud 12 = .ok (.iload_n 3, 1) := by decide +kernel
theorem dL_isLoud_13 : decode cL_isLoud 13 = .ok (.goto 5, 3) := by decide +kernel
theorem dL_isLoud_16 : decode cL_isLoud 16 = .ok (.iload 4, 2) := by decide +kernel
theorem dL_isLoud_18 : decode cL_isLoud 18 = .ok (.istore 7, 2) := by decide +kernel
theorem dL_isLoud_20 : decode cL_isLoud 20 = .ok (.iload_n 3, 1) := by decide +kernel
theorem dL_isLoud_21 : decode cL_isLoud 21 = .ok (.iload 4, 2) := by decide +kernel
theorem dL_isLoud_23 : decode cL_isLoud 23 = .ok (.if_icmp .ge 8, 3) := by decide +kernel
theorem dL_isLoud_26 : decode cL_isLoud 26 = .ok (.iload 4, 2) := by decide +kernel
theorem dL_isLoud_28 : decode cL_isLoud 28 = .ok (.goto 4, 3) := by decide +kernel
theorem dL_isLoud_31 : decode cL_isLoud 31 = .ok (.iload_n 3, 1) := by decide +kernel
theorem dL_isLoud_32 : decode cL_isLoud 32 = .ok (.istore 8, 2) := by decide +kernel
theorem dL_isLoud_34 : decode cL_isLoud 34 = .ok (.aload_n 0, 1) := by decide +kernel
theorem dL_isLoud_35 : decode cL_isLoud 35 = .ok (.invokevirtual 98, 3) := by decide +kernel
theorem dL_isLoud_38 : decode cL_isLoud 38 = .ok (.istore 9, 2) := by decide +kernel
theorem dL_isLoud_40 : decode cL_isLoud 40 = .ok (.aload_n 0, 1) := by decide +kernel
theorem dL_isLoud_41 : decode cL_isLoud 41 = .ok (.iload 9, 2) := by decide +kernel
theorem dL_isLoud_43 : decode cL_isLoud 43 = .ok (.iconst 3, 1) := by decide +kernel
theorem dL_isLoud_44 : decode cL_isLoud 44 = .ok (.invokestatic 108, 3) := by decide +kernel
theorem dL_isLoud_47 : decode cL_isLoud 47 = .ok (.istore 10, 2) := by decide +kernel
theorem dL_isLoud_49 : decode cL_isLoud 49 = .ok (.aload_n 0, 1) := by decide +kernel
theorem dL_isLoud_50 : decode cL_isLoud 50 = .ok (.iload_n 1, 1) := by decide +kernel
theorem dL_isLoud_51 : decode cL_isLoud 51 = .ok (.iload_n 2, 1) := by decide +kernel
theorem dL_isLoud_52 : decode cL_isLoud 52 = .ok (.iload 7, 2) := by decide +kernel
theorem dL_isLoud_54 : decode cL_isLoud 54 = .ok (.invokestatic 129, 3) := by decide +kernel
theorem dL_isLoud_57 : decode cL_isLoud 57 = .ok (.istore 11, 2) := by decide +kernel
theorem dL_isLoud_59 : decode cL_isLoud 59 = .ok (.aload_n 0, 1) := by decide +kernel
theorem dL_isLoud_60 : decode cL_isLoud 60 = .ok (.invokestatic 160, 3) := by decide +kernel
theorem dL_isLoud_63 : decode cL_isLoud 63 = .ok (.ifCond .lt 17, 3) := by decide +kernel
theorem dL_isLoud_66 : decode cL_isLoud 66 = .ok (.aload_n 0, 1) := by decide +kernel
theorem dL_isLoud_67 : decode cL_isLoud 67 = .ok (.invokestatic 115, 3) := by decide +kernel
theorem dL_isLoud_70 : decode cL_isLoud 70 = .ok (.lload 5, 2) := by decide +kernel
theorem dL_isLoud_72 : decode cL_isLoud 72 = .ok (.lcmp, 1) := by decide +kernel
theorem dL_isLoud_73 : decode cL_isLoud 73 = .ok (.ifCond .ne 7, 3) := by decide +kernel
theorem dL_isLoud_76 : decode cL_isLoud 76 = .ok (.iconst 1, 1) := by decide +kernel
theorem dL_isLoud_77 : decode cL_isLoud 77 = .ok (.goto 4, 3) := by decide +kernel
theorem dL_isLoud_80 : decode cL_isLoud 80 = .ok (.iconst 0, 1) := by decide +kernel
theorem dL_isLoud_81 : decode cL_isLoud 81 = .ok (.istore 12, 2) := by decide +kernel
theorem dL_isLoud_83 : decode cL_isLoud 83 = .ok (.iload 12, 2) := by decide +kernel
theorem dL_isLoud_85 : decode cL_isLoud 85 = .ok (.ifCond .eq 14, 3) := by decide +kernel
theorem dL_isLoud_88 : decode cL_isLoud 88 = .ok (.aload_n 0, 1) := by decide +kernel
theorem dL_isLoud_89 : decode cL_isLoud 89 = .ok (.iload_n 1, 1) := by decide +kernel
theorem dL_isLoud_90 : decode cL_isLoud 90 = .ok (.iload_n 2, 1) := by decide +kernel
theorem dL_isLoud_91 : decode cL_isLoud 91 = .ok (.iload 8, 2) := by decide +kernel
theorem dL_isLoud_93 : decode cL_isLoud 93 = .ok (.invokestatic 129, 3) := by decide +kernel
theorem dL_isLoud_96 : decode cL_isLoud 96 = .ok (.goto 4, 3) := by decide +kernel
theorem dL_isLoud_99 : decode cL_isLoud 99 = .ok (.iconst 0, 1) := by decide +kernel
theorem dL_isLoud_100 : decode cL_isLoud 100 = .ok (.istore 13, 2) := by decide +kernel
theorem dL_isLoud_102 : decode cL_isLoud 102 = .ok (.iload 12, 2) := by decide +kernel
theorem dL_isLoud_104 : decode cL_isLoud 104 = .ok (.ifCond .eq 72, 3) := by decide +kernel
theorem dL_isLoud_107 : decode cL_isLoud 107 = .ok (.iload 11, 2) := by decide +kernel
theorem dL_isLoud_109 : decode cL_isLoud 109 = .ok (.iconst 2, 1) := by decide +kernel
theorem dL_isLoud_110 : decode cL_isLoud 110 = .ok (.if_icmp .eq 62, 3) := by decide +kernel
theorem dL_isLoud_113 : decode cL_isLoud 113 = .ok (.iload 13, 2) := by decide +kernel
theorem dL_isLoud_115 : decode cL_isLoud 115 = .ok (.iconst 2, 1) := by decide +kernel
theorem dL_isLoud_116 : decode cL_isLoud 116 = .ok (.if_icmp .eq 56, 3) := by decide +kernel
theorem dL_isLoud_119 : decode cL_isLoud 119 = .ok (.iload 11, 2) := by decide +kernel
theorem dL_isLoud_121 : decode cL_isLoud 121 = .ok (.iload 13, 2) := by decide +kernel
theorem dL_isLoud_123 : decode cL_isLoud 123 = .ok (.if_icmp .gt 53, 3) := by decide +kernel
theorem dL_isLoud_126 : decode cL_isLoud 126 = .ok (.iload 13, 2) := by decide +kernel
theorem dL_isLoud_128 : decode cL_isLoud 128 = .ok (.iload 8, 2) := by decide +kernel
theorem dL_isLoud_130 : decode cL_isLoud 130 = .ok (.iload 10, 2) := by decide +kernel
theorem dL_isLoud_132 : decode cL_isLoud 132 = .ok (.if_icmp .le 7, 3) := by decide +kernel
theorem dL_isLoud_135 : decode cL_isLoud 135 = .ok (.iconst 1, 1) := by decide +kernel
theorem dL_isLoud_136 : decode cL_isLoud 136 = .ok (.goto 4, 3) := by decide +kernel
theorem dL_isLoud_139 : decode cL_isLoud 139 = .ok (.iconst 0, 1) := by decide +kernel
theorem dL_isLoud_140 : decode cL_isLoud 140 = .ok (.if_icmp .ne 36, 3) := by decide +kernel
theorem dL_isLoud_143 : decode cL_isLoud 143 = .ok (.iload 11, 2) := by decide +kernel
theorem dL_isLoud_145 : decode cL_isLoud 145 = .ok (.iload 7, 2) := by decide +kernel
theorem dL_isLoud_147 : decode cL_isLoud 147 = .ok (.iload 10, 2) := by decide +kernel
theorem dL_isLoud_149 : decode cL_isLoud 149 = .ok (.if_icmp .le 7, 3) := by decide +kernel
theorem dL_isLoud_152 : decode cL_isLoud 152 = .ok (.iconst 1, 1) := by decide +kernel
theorem dL_isLoud_153 : decode cL_isLoud 153 = .ok (.goto 4, 3) := by decide +kernel
theorem dL_isLoud_156 : decode cL_isLoud 156 = .ok (.iconst 0, 1) := by decide +kernel
theorem dL_isLoud_157 : decode cL_isLoud 157 = .ok (.if_icmp .ne 19, 3) := by decide +kernel
theorem dL_isLoud_160 : decode cL_isLoud 160 = .ok (.aload_n 0, 1) := by decide +kernel
theorem dL_isLoud_161 : decode cL_isLoud 161 = .ok (.invokevirtual 157, 3) := by decide +kernel
theorem dL_isLoud_164 : decode cL_isLoud 164 = .ok (.aload_n 0, 1) := by decide +kernel
theorem dL_isLoud_165 : decode cL_isLoud 165 = .ok (.iconst 4, 1) := by decide +kernel
theorem dL_isLoud_166 : decode cL_isLoud 166 = .ok (.invokestatic 101, 3) := by decide +kernel
theorem dL_isLoud_169 : decode cL_isLoud 169 = .ok (.if_icmp .gt 7, 3) := by decide +kernel
theorem dL_isLoud_172 : decode cL_isLoud 172 = .ok (.iconst 1, 1) := by decide +kernel
theorem dL_isLoud_173 : decode cL_isLoud 173 = .ok (.goto 4, 3) := by decide +kernel
theorem dL_isLoud_176 : decode cL_isLoud 176 = .ok (.iconst 0, 1) := by decide +kernel
theorem dL_isLoud_177 : decode cL_isLoud 177 = .ok (.istore 12, 2) := by decide +kernel
theorem dL_isLoud_179 : decode cL_isLoud 179 = .ok (.iload 12, 2) := by decide +kernel
theorem dL_isLoud_181 : decode cL_isLoud 181 = .ok (.ifCond .eq 24, 3) := by decide +kernel
theorem dL_isLoud_184 : decode cL_isLoud 184 = .ok (.aload_n 0, 1) := by decide +kernel
theorem dL_isLoud_185 : decode cL_isLoud 185 = .ok (.invokestatic 160, 3) := by decide +kernel
theorem dL_isLoud_188 : decode cL_isLoud 188 = .ok (.ifCond .lt 17, 3) := by decide +kernel
theorem dL_isLoud_191 : decode cL_isLoud 191 = .ok (.aload_n 0, 1) := by decide +kernel
theorem dL_isLoud_192 : decode cL_isLoud 192 = .ok (.invokestatic 115, 3) := by decide +kernel
theorem dL_isLoud_195 : decode cL_isLoud 195 = .ok (.lload 5, 2) := by decide +kernel
theorem dL_isLoud_197 : decode cL_isLoud 197 = .ok (.lcmp, 1) := by decide +kernel
theorem dL_isLoud_198 : decode cL_isLoud 198 = .ok (.ifCond .ne 7, 3) := by decide +kernel
theorem dL_isLoud_201 : decode cL_isLoud 201 = .ok (.iconst 1, 1) := by decide +kernel
theorem dL_isLoud_202 : decode cL_isLoud 202 = .ok (.goto 4, 3) := by decide +kernel
theorem dL_isLoud_205 : decode cL_isLoud 205 = .ok (.iconst 0, 1) := by decide +kernel
theorem dL_isLoud_206 : decode cL_isLoud 206 = .ok (.ireturn, 1) := by decide +kernel
theorem dL_isAnew_0 : decode cL_isAnew 0 = .ok (.aload_n 0, 1) := by decide +kernel
theorem dL_isAnew_1 : decode cL_isAnew 1 = .ok (.invokestatic 115, 3) := by decide +kernel
theorem dL_isAnew_4 : decode cL_isAnew 4 = .ok (.lstore_n 2, 1) := by decide +kernel
theorem dL_isAnew_5 : decode cL_isAnew 5 = .ok (.aload_n 0, 1) := by decide +kernel
theorem dL_isAnew_6 : decode cL_isAnew 6 = .ok (.invokevirtual 92, 3) := by decide +kernel
theorem dL_isAnew_9 : decode cL_isAnew 9 = .ok (.istore 4, 2) := by decide +kernel
theorem dL_isAnew_11 : decode cL_isAnew 11 = .ok (.aload_n 0, 1) := by decide +kernel
theorem dL_isAnew_12 : decode cL_isAnew 12 = .ok (.iconst 1, 1) := by decide +kernel
theorem dL_isAnew_13 : decode cL_isAnew 13 = .ok (.invokestatic 101, 3) := by decide +kernel
theorem dL_isAnew_16 : decode cL_isAnew 16 = .ok (.istore 5, 2) := by decide +kernel
theorem dL_isAnew_18 : decode cL_isAnew 18 = .ok (.aload_n 0, 1) := by decide +kernel
theorem dL_isAnew_19 : decode cL_isAnew 19 = .ok (.iload_n 1, 1) := by decide +kernel
theorem dL_isAnew_20 : decode cL_isAnew 20 = .ok (.invokestatic 119, 3) := by decide +kernel
theorem dL_isAnew_23 : decode cL_isAnew 23 = .ok (.iload 4, 2) := by decide +kernel
theorem dL_isAnew_25 : decode cL_isAnew 25 = .ok (.if_icmp .ne 91, 3) := by decide +kernel
theorem dL_isAnew_28 : decode cL_isAnew 28 = .ok (.aload_n 0, 1) := by decide +kernel
theorem dL_isAnew_29 : decode cL_isAnew 29 = .ok (.invokevirtual 92, 3) := by decide +kernel
theorem dL_isAnew_32 : decode cL_isAnew 32 = .ok (.ifCond .ne 84, 3) := by decide +kernel
theorem dL_isAnew_35 : decode cL_isAnew 35 = .ok (.aload_n 0, 1) := by decide +kernel
theorem dL_isAnew_36 : decode cL_isAnew 36 = .ok (.invokevirtual 98, 3) := by decide +kernel
theorem dL_isAnew_39 : decode cL_isAnew 39 = .ok (.ifCond .ne 77, 3) := by decide +kernel
theorem dL_isAnew_42 : decode cL_isAnew 42 = .ok (.aload_n 0, 1) := by decide +kernel
theorem dL_isAnew_43 : decode cL_isAnew 43 = .ok (.invokevirtual 95, 3) := by decide +kernel
theorem dL_isAnew_46 : decode cL_isAnew 46 = .ok (.ifCond .ne 70, 3) := by decide +kernel
theorem dL_isAnew_49 : decode cL_isAnew 49 = .ok (.aload_n 0, 1) := by decide +kernel
theorem dL_isAnew_50 : decode cL_isAnew 50 = .ok (.iconst 1, 1) := by decide +kernel
theorem dL_isAnew_51 : decode cL_isAnew 51 = .ok (.invokestatic 101, 3) := by decide +kernel
theorem dL_isAnew_54 : decode cL_isAnew 54 = .ok (.iload 5, 2) := by decide +kernel
theorem dL_isAnew_56 : decode cL_isAnew 56 = .ok (.if_icmp .ne 60, 3) := by decide +kernel
theorem dL_isAnew_59 : decode cL_isAnew 59 = .ok (.aload_n 0, 1) := by decide +kernel
theorem dL_isAnew_60 : decode cL_isAnew 60 = .ok (.bipush 8, 2) := by decide +kernel
theorem dL_isAnew_62 : decode cL_isAnew 62 = .ok (.invokestatic 101, 3) := by decide +kernel
theorem dL_isAnew_65 : decode cL_isAnew 65 = .ok (.iload_n 1, 1) := by decide +kernel
theorem dL_isAnew_66 : decode cL_isAnew 66 = .ok (.if_icmp .ne 50, 3) := by decide +kernel
theorem dL_isAnew_69 : decode cL_isAnew 69 = .ok (.aload_n 0, 1) := by decide +kernel
theorem dL_isAnew_70 : decode cL_isAnew 70 = .ok (.invokevirtual 163, 3) := by decide +kernel
theorem dL_isAnew_73 : decode cL_isAnew 73 = .ok (.ifCond .ne 43, 3) := by decide +kernel
theorem dL_isAnew_76 : decode cL_isAnew 76 = .ok (.aload_n 0, 1) := by decide +kernel
theorem dL_isAnew_77 : decode cL_isAnew 77 = .ok (.iconst 0, 1) := by decide +kernel
theorem dL_isAnew_78 : decode cL_isAnew 78 = .ok (.invokestatic 106, 3) := by decide +kernel
theorem dL_isAnew_81 : decode cL_isAnew 81 = .ok (.ifCond .ne 35, 3) := by decide +kernel
theorem dL_isAnew_84 : decode cL_isAnew 84 = .ok (.aload_n 0, 1) := by decide +kernel
theorem dL_isAnew_85 : decode cL_isAnew 85 = .ok (.iconst 4, 1) := by decide +kernel
theorem dL_isAnew_86 : decode cL_isAnew 86 = .ok (.invokestatic 106, 3) := by decide +kernel
theorem dL_isAnew_89 : decode cL_isAnew 89 = .ok (.iconst (-1), 1) := by decide +kernel
theorem dL_isAnew_90 : decode cL_isAnew 90 = .ok (.if_icmp .ne 26, 3) := by decide +kernel
theorem dL_isAnew_93 : decode cL_isAnew 93 = .ok (.aload_n 0, 1) := by decide +kernel
theorem dL_isAnew_94 : decode cL_isAnew 94 = .ok (.invokevirtual 157, 3) := by decide +kernel
theorem dL_isAnew_97 : decode cL_isAnew 97 = .ok (.ifCond .ne 19, 3) := by decide +kernel
theorem dL_isAnew_100 : decode cL_isAnew 100 = .ok (.aload_n 0, 1) := by decide +kernel
theorem dL_isAnew_101 : decode cL_isAnew 101 = .ok (.iconst 0, 1) := by decide +kernel
theorem dL_isAnew_102 : decode cL_isAnew 102 = .ok (.invokestatic 137, 3) := by decide +kernel
theorem dL_isAnew_105 : decode cL_isAnew 105 = .ok (.ldc2_w 166, 3) := by decide +kernel
theorem dL_isAnew_108 : decode cL_isAnew 108 = .ok (.dcmp .l, 1) := by decide +kernel
theorem dL_isAnew_109 : decode cL_isAnew 109 = .ok (.ifCond .ne 7, 3) := by decide +kernel
theorem dL_isAnew_112 : decode cL_isAnew 112 = .ok (.iconst 1, 1) := by decide +kernel
theorem dL_isAnew_113 : decode cL_isAnew 113 = .ok (.goto 4, 3) := by decide +kernel
theorem dL_isAnew_116 : decode cL_isAnew 116 = .ok (.iconst 0, 1) := by decide +kernel
theorem dL_isAnew_117 : decode cL_isAnew 117 = .ok (.istore 6, 2) := by decide +kernel
theorem dL_isAnew_119 : decode cL_isAnew 119 = .ok (.iconst 0, 1) := by decide +kernel
theorem dL_isAnew_120 : decode cL_isAnew 120 = .ok (.istore 7, 2) := by decide +kernel
theorem dL_isAnew_122 : decode cL_isAnew 122 = .ok (.iload 7, 2) := by decide +kernel
theorem dL_isAnew_124 : decode cL_isAnew 124 = .ok (.iload_n 1, 1) := by decide +kernel
theorem dL_isAnew_125 : decode cL_isAnew 125 = .ok (.if_icmp .ge 88, 3) := by decide +kernel
theorem dL_isAnew_128 : decode cL_isAnew 128 = .ok (.iload 6, 2) := by decide +kernel
theorem dL_isAnew_130 : decode cL_isAnew 130 = .ok (.ifCond .eq 83, 3) := by decide +kernel
theorem dL_isAnew_133 : decode cL_isAnew 133 = .ok (.aload_n 0, 1) := by decide +kernel
theorem dL_isAnew_134 : decode cL_isAnew 134 = .ok (.iload 7, 2) := by decide +kernel
theorem dL_isAnew_136 : decode cL_isAnew 136 = .ok (.iconst 0, 1) := by decide +kernel
theorem dL_isAnew_137 : decode cL_isAnew 137 = .ok (.invokestatic 108, 3) := by decide +kernel
theorem dL_isAnew_140 : decode cL_isAnew 140 = .ok (.ifCond .ne 64, 3) := by decide +kernel
theorem dL_isAnew_143 : decode cL_isAnew 143 = .ok (.aload_n 0, 1) := by decide +kernel
theorem dL_isAnew_144 : decode cL_isAnew 144 = .ok (.iload 7, 2) := by decide +kernel
theorem dL_isAnew_146 : decode cL_isAnew 146 = .ok (.iconst 1, 1) := by decide +kernel
theorem dL_isAnew_147 : decode cL_isAnew 147 = .ok (.invokestatic 108, 3) := by decide +kernel
theorem dL_isAnew_150 : decode cL_isAnew 150 = .ok (.ldc 168, 2) := by decide +kernel
theorem dL_isAnew_152 : decode cL_isAnew 152 = .ok (.if_icmp .ne 52, 3) := by decide +kernel
theorem dL_isAnew_155 : decode cL_isAnew 155 = .ok (.aload_n 0, 1) := by decide +kernel
theorem dL_isAnew_156 : decode cL_isAnew 156 = .ok (.iload 7, 2) := by decide +kernel
theorem dL_isAnew_158 : decode cL_isAnew 158 = .ok (.iconst 2, 1) := by decide +kernel
theorem dL_isAnew_159 : decode cL_isAnew 159 = .ok (.invokestatic 108, 3) := by decide +kernel
theorem dL_isAnew_162 : decode cL_isAnew 162 = .ok (.ifCond .ne 42, 3) := by decide +kernel
theorem dL_isAnew_165 : decode cL_isAnew 165 = .ok (.aload_n 0, 1) := by decide +kernel
theorem dL_isAnew_166 : decode cL_isAnew 166 = .ok (.iload 7, 2) := by decide +kernel
theorem dL_isAnew_168 : decode cL_isAnew 168 = .ok (.iconst 3, 1) := by decide +kernel
theorem dL_isAnew_169 : decode cL_isAnew 169 = .ok (.invokestatic 108, 3) := by decide +kernel
theorem dL_isAnew_172 : decode cL_isAnew 172 = .ok (.ldc 168, 2) := by decide +kernel
theorem dL_isAnew_174 : decode cL_isAnew 174 = .ok (.aload_n 0, 1) := by decide +kernel
theorem dL_isAnew_175 : decode cL_isAnew 175 = .ok (.iconst 0, 1) := by decide +kernel
theorem dL_isAnew_176 : decode cL_isAnew 176 = .ok (.invokestatic 101, 3) := by decide +kernel
theorem dL_isAnew_179 : decode cL_isAnew 179 = .ok (.imul, 1) := by decide +kernel
theorem dL_isAnew_180 : decode cL_isAnew 180 = .ok (.sipush 4096, 3) := by decide +kernel
theorem dL_isAnew_183 : decode cL_isAnew 183 = .ok (.idiv, 1) := by decide +kernel
theorem dL_isAnew_184 : decode cL_isAnew 184 = .ok (.bipush 50, 2) := by decide +kernel
theorem dL_isAnew_186 : decode cL_isAnew 186 = .ok (.iadd, 1) := by decide +kernel
theorem dL_isAnew_187 : decode cL_isAnew 187 = .ok (.if_icmp .ne 17, 3) := by decide +kernel
theorem dL_isAnew_190 : decode cL_isAnew 190 = .ok (.aload_n 0, 1) := by decide +kernel
theorem dL_isAnew_191 : decode cL_isAnew 191 = .ok (.iload 7, 2) := by decide +kernel
theorem dL_isAnew_193 : decode cL_isAnew 193 = .ok (.iconst 4, 1) := by decide +kernel
theorem dL_isAnew_194 : decode cL_isAnew 194 = .ok (.invokestatic 108, 3) := by decide +kernel
theorem dL_isAnew_197 : decode cL_isAnew 197 = .ok (.ifCond .ne 7, 3) := by decide +kernel
theorem dL_isAnew_200 : decode cL_isAnew 200 = .ok (.iconst 1, 1) := by decide +kernel
theorem dL_isAnew_201 : decode cL_isAnew 201 = .ok (.goto 4, 3) := by decide +kernel
theorem dL_isAnew_204 : decode cL_isAnew 204 = .ok (.iconst 0, 1) := by decide +kernel
theorem dL_isAnew_205 : decode cL_isAnew 205 = .ok (.istore 6, 2) := by decide +kernel
theorem dL_isAnew_207 : decode cL_isAnew 207 = .ok (.iinc 7 1, 3) := by decide +kernel
theorem dL_isAnew_210 : decode cL_isAnew 210 = .ok (.goto (-88), 3) := by decide +kernel
theorem dL_isAnew_213 : decode cL_isAnew 213 = .ok (.iload 6, 2) := by decide +kernel
theorem dL_isAnew_215 : decode cL_isAnew 215 = .ok (.ifCond .eq 34, 3) := by decide +kernel
theorem dL_isAnew_218 : decode cL_isAnew 218 = .ok (.aload_n 0, 1) := by decide +kernel
theorem dL_isAnew_219 : decode cL_isAnew 219 = .ok (.iload_n 1, 1) := by decide +kernel
theorem dL_isAnew_220 : decode cL_isAnew 220 = .ok (.iconst 0, 1) := by decide +kernel
theorem dL_isAnew_221 : decode cL_isAnew 221 = .ok (.invokestatic 108, 3) := by decide +kernel
theorem dL_isAnew_224 : decode cL_isAnew 224 = .ok (.ldc 31, 2) := by decide +kernel
theorem dL_isAnew_226 : decode cL_isAnew 226 = .ok (.if_icmp .ne 23, 3) := by decide +kernel
theorem dL_isAnew_229 : decode cL_isAnew 229 = .ok (.aload_n 0, 1) := by decide +kernel
theorem dL_isAnew_230 : decode cL_isAnew 230 = .ok (.invokestatic 160, 3) := by decide +kernel
theorem dL_isAnew_233 : decode cL_isAnew 233 = .ok (.ifCond .lt 16, 3) := by decide +kernel
theorem dL_isAnew_236 : decode cL_isAnew 236 = .ok (.aload_n 0, 1) := by decide +kernel
theorem dL_isAnew_237 : decode cL_isAnew 237 = .ok (.invokestatic 115, 3) := by decide +kernel
theorem dL_isAnew_240 : decode cL_isAnew 240 = .ok (.lload_n 2, 1) := by decide +kernel
theorem dL_isAnew_241 : decode cL_isAnew 241 = .ok (.lcmp, 1) := by decide +kernel
theorem dL_isAnew_242 : decode cL_isAnew 242 = .ok (.ifCond .ne 7, 3) := by decide +kernel
theorem dL_isAnew_245 : decode cL_isAnew 245 = .ok (.iconst 1, 1) := by decide +kernel
theorem dL_isAnew_246 : decode cL_isAnew 246 = .ok (.goto 4, 3) := by decide +kernel
theorem dL_isAnew_249 : decode cL_isAnew 249 = .ok (.iconst 0, 1) := by decide +kernel
theorem dL_isAnew_250 : decode cL_isAnew 250 = .ok (.ireturn, 1) := by decide +kernel
theorem dL_isSplit_0 : decode cL_isSplit 0 = .ok (.aload_n 0, 1) := by decide +kernel
theorem dL_isSplit_1 : decode cL_isSplit 1 = .ok (.invokestatic 115, 3) := by decide +kernel
theorem dL_isSplit_4 : decode cL_isSplit 4 = .ok (.lstore 6, 2) := by decide +kernel
theorem dL_isSplit_6 : decode cL_isSplit 6 = .ok (.aload_n 0, 1) := by decide +kernel
theorem dL_isSplit_7 : decode cL_isSplit 7 = .ok (.iload_n 1, 1) := by decide +kernel
theorem dL_isSplit_8 : decode cL_isSplit 8 = .ok (.iload_n 2, 1) := by decide +kernel
theorem dL_isSplit_9 : decode cL_isSplit 9 = .ok (.iload_n 3, 1) := by decide +kernel
theorem dL_isSplit_10 : decode cL_isSplit 10 = .ok (.iload 4, 2) := by decide +kernel
theorem dL_isSplit_12 : decode cL_isSplit 12 = .ok (.invokestatic 131, 3) := by decide +kernel
theorem dL_isSplit_15 : decode cL_isSplit 15 = .ok (.aload_n 0, 1) := by decide +kernel
theorem dL_isSplit_16 : decode cL_isSplit 16 = .ok (.iload_n 1, 1) := by decide +kernel
theorem dL_isSplit_17 : decode cL_isSplit 17 = .ok (.iload_n 2, 1) := by decide +kernel
theorem dL_isSplit_18 : decode cL_isSplit 18 = .ok (.iload_n 3, 1) := by decide +kernel
theorem dL_isSplit_19 : decode cL_isSplit 19 = .ok (.iload 5, 2) := by decide +kernel
theorem dL_isSplit_21 : decode cL_isSplit 21 = .ok (.invokestatic 131, 3) := by decide +kernel
theorem dL_isSplit_24 : decode cL_isSplit 24 = .ok (.iadd, 1) := by decide +kernel
theorem dL_isSplit_25 : decode cL_isSplit 25 = .ok (.istore 8, 2) := by decide +kernel
theorem dL_isSplit_27 : decode cL_isSplit 27 = .ok (.aload_n 0, 1) := by decide +kernel
theorem dL_isSplit_28 : decode cL_isSplit 28 = .ok (.invokestatic 115, 3) := by decide +kernel
theorem dL_isSplit_31 : decode cL_isSplit 31 = .ok (.lstore 9, 2) := by decide +kernel
theorem dL_isSplit_33 : decode cL_isSplit 33 = .ok (.iload 8, 2) := by decide +kernel
theorem dL_isSplit_35 : decode cL_isSplit 35 = .ok (.ifCond .lt 75, 3) := by decide +kernel
theorem dL_isSplit_38 : decode cL_isSplit 38 = .ok (.iload 8, 2) := by decide +kernel
theorem dL_isSplit_40 : decode cL_isSplit 40 = .ok (.iload 4, 2) := by decide +kernel
theorem dL_isSplit_42 : decode cL_isSplit 42 = .ok (.iload 5, 2) := by decide +kernel
theorem dL_isSplit_44 : decode cL_isSplit 44 = .ok (.iadd, 1) := by decide +kernel
theorem dL_isSplit_45 : decode cL_isSplit 45 = .ok (.if_icmp .gt 65, 3) := by decide +kernel
theorem dL_isSplit_48 : decode cL_isSplit 48 = .ok (.aload_n 0, 1) := by decide +kernel
theorem dL_isSplit_49 : decode cL_isSplit 49 = .ok (.invokestatic 160, 3) := by decide +kernel
theorem dL_isSplit_52 : decode cL_isSplit 52 = .ok (.ifCond .lt 58, 3) := by decide +kernel
theorem dL_isSplit_55 : decode cL_isSplit 55 = .ok (.aload_n 0, 1) := by decide +kernel
theorem dL_isSplit_56 : decode cL_isSplit 56 = .ok (.invokestatic 160, 3) := by decide +kernel
theorem dL_isSplit_59 : decode cL_isSplit 59 = .ok (.ifCond .lt 51, 3) := by decide +kernel
theorem dL_isSplit_62 : decode cL_isSplit 62 = .ok (.aload_n 0, 1) := by decide +kernel
theorem dL_isSplit_63 : decode cL_isSplit 63 = .ok (.invokestatic 115, 3) := by decide +kernel
theorem dL_isSplit_66 : decode cL_isSplit 66 = .ok (.lload 6, 2) := by decide +kernel
theorem dL_isSplit_68 : decode cL_isSplit 68 = .ok (.lcmp, 1) := by decide +kernel
theorem dL_isSplit_69 : decode cL_isSplit 69 = .ok (.ifCond .ne 41, 3) := by decide +kernel
theorem dL_isSplit_72 : decode cL_isSplit 72 = .ok (.aload_n 0, 1) := by decide +kernel
theorem dL_isSplit_73 : decode cL_isSplit 73 = .ok (.iload_n 1, 1) := by decide +kernel
theorem dL_isSplit_74 : decode cL_isSplit 74 = .ok (.iload_n 2, 1) := by decide +kernel
theorem dL_isSplit_75 : decode cL_isSplit 75 = .ok (.iload_n 3, 1) := by decide +kernel
theorem dL_isSplit_76 : decode cL_isSplit 76 = .ok (.iload 4, 2) := by decide +kernel
theorem dL_isSplit_78 : decode cL_isSplit 78 = .ok (.iload 5, 2) := by decide +kernel
theorem dL_isSplit_80 : decode cL_isSplit 80 = .ok (.iadd, 1) := by decide +kernel
theorem dL_isSplit_81 : decode cL_isSplit 81 = .ok (.invokestatic 131, 3) := by decide +kernel
theorem dL_isSplit_84 : decode cL_isSplit 84 = .ok (.iload 8, 2) := by decide +kernel
theorem dL_isSplit_86 : decode cL_isSplit 86 = .ok (.if_icmp .ne 24, 3) := by decide +kernel
theorem dL_isSplit_89 : decode cL_isSplit 89 = .ok (.aload_n 0, 1) := by decide +kernel
theorem dL_isSplit_90 : decode cL_isSplit 90 = .ok (.invokestatic 115, 3) := by decide +kernel
theorem dL_isSplit_93 : decode cL_isSplit 93 = .ok (.lload 9, 2) := by decide +kernel
theorem dL_isSplit_95 : decode cL_isSplit 95 = .ok (.lcmp, 1) := by decide +kernel
theorem dL_isSplit_96 : decode cL_isSplit 96 = .ok (.ifCond .ne 14, 3) := by decide +kernel
theorem dL_isSplit_99 : decode cL_isSplit 99 = .ok (.aload_n 0, 1) := by decide +kernel
theorem dL_isSplit_100 : decode cL_isSplit 100 = .ok (.invokestatic 160, 3) := by decide +kernel
theorem dL_isSplit_103 : decode cL_isSplit 103 = .ok (.ifCond .lt 7, 3) := by decide +kernel
theorem dL_isSplit_106 : decode cL_isSplit 106 = .ok (.iconst 1, 1) := by decide +kernel
theorem dL_isSplit_107 : decode cL_isSplit 107 = .ok (.goto 4, 3) := by decide +kernel
theorem dL_isSplit_110 : decode cL_isSplit 110 = .ok (.iconst 0, 1) := by decide +kernel
theorem dL_isSplit_111 : decode cL_isSplit 111 = .ok (.istore 11, 2) := by decide +kernel
theorem dL_isSplit_113 : decode cL_isSplit 113 = .ok (.aload_n 0, 1) := by decide +kernel
theorem dL_isSplit_114 : decode cL_isSplit 114 = .ok (.iload_n 1, 1) := by decide +kernel
theorem dL_isSplit_115 : decode cL_isSplit 115 = .ok (.iload_n 2, 1) := by decide +kernel
theorem dL_isSplit_116 : decode cL_isSplit 116 = .ok (.iload_n 3, 1) := by decide +kernel
theorem dL_isSplit_117 : decode cL_isSplit 117 = .ok (.invokestatic 147, 3) := by decide +kernel
theorem dL_isSplit_120 : decode cL_isSplit 120 = .ok (.istore 12, 2) := by decide +kernel
theorem dL_isSplit_122 : decode cL_isSplit 122 = .ok (.aload_n 0, 1) := by decide +kernel
theorem dL_isSplit_123 : decode cL_isSplit 123 = .ok (.iload_n 1, 1) := by decide +kernel
theorem dL_isSplit_124 : decode cL_isSplit 124 = .ok (.iload_n 2, 1) := by decide +kernel
theorem dL_isSplit_125 : decode cL_isSplit 125 = .ok (.iconst 1, 1) := by decide +kernel
theorem dL_isSplit_126 : decode cL_isSplit 126 = .ok (.iload 4, 2) := by decide +kernel
theorem dL_isSplit_128 : decode cL_isSplit 128 = .ok (.iadd, 1) := by decide +kernel
theorem dL_isSplit_129 : decode cL_isSplit 129 = .ok (.invokestatic 149, 3) := by decide +kernel
theorem dL_isSplit_132 : decode cL_isSplit 132 = .ok (.istore 13, 2) := by decide +kernel
theorem dL_isSplit_134 : decode cL_isSplit 134 = .ok (.iload 11, 2) := by decide +kernel
theorem dL_isSplit_136 : decode cL_isSplit 136 = .ok (.ifCond .eq 91, 3) := by decide +kernel
theorem dL_isSplit_139 : decode cL_isSplit 139 = .ok (.iload 12, 2) := by decide +kernel
theorem dL_isSplit_141 : decode cL_isSplit 141 = .ok (.iconst (-1), 1) := by decide +kernel
theorem dL_isSplit_142 : decode cL_isSplit 142 = .ok (.if_icmp .lt 85, 3) := by decide +kernel
theorem dL_isSplit_145 : decode cL_isSplit 145 = .ok (.iload 12, 2) := by decide +kernel
theorem dL_isSplit_147 : decode cL_isSplit 147 = .ok (.sipush 1000, 3) := by decide +kernel
theorem dL_isSplit_150 : decode cL_isSplit 150 = .ok (.if_icmp .gt 77, 3) := by decide +kernel
theorem dL_isSplit_153 : decode cL_isSplit 153 = .ok (.iload 12, 2) := by decide +kernel
theorem dL_isSplit_155 : decode cL_isSplit 155 = .ok (.ifCond .lt 16, 3) := by decide +kernel
theorem dL_isSplit_158 : decode cL_isSplit 158 = .ok (.iload 12, 2) := by decide +kernel
theorem dL_isSplit_160 : decode cL_isSplit 160 = .ok (.iconst 5, 1) := by decide +kernel
theorem dL_isSplit_161 : decode cL_isSplit 161 = .ok (.aload_n 0, 1) := by decide +kernel
theorem dL_isSplit_162 : decode cL_isSplit 162 = .ok (.bipush 8, 2) := by decide +kernel
theorem dL_isSplit_164 : decode cL_isSplit 164 = .ok (.invokestatic 101, 3) := by decide +kernel
theorem dL_isSplit_167 : decode cL_isSplit 167 = .ok (.imul, 1) := by decide +kernel
theorem dL_isSplit_168 : decode cL_isSplit 168 = .ok (.if_icmp .lt 59, 3) := by decide +kernel
theorem dL_isSplit_171 : decode cL_isSplit 171 = .ok (.iload 13, 2) := by decide +kernel
theorem dL_isSplit_173 : decode cL_isSplit 173 = .ok (.iconst (-1), 1) := by decide +kernel
theorem dL_isSplit_174 : decode cL_isSplit 174 = .ok (.if_icmp .eq 39, 3) := by decide +kernel
theorem dL_isSplit_177 : decode cL_isSplit 177 = .ok (.iload 13, 2) := by decide +kernel
theorem dL_isSplit_179 : decode cL_isSplit 179 = .ok (.bipush 79, 2) := by decide +kernel
theorem dL_isSplit_181 : decode cL_isSplit 181 = .ok (.if_icmp .le 46, 3) := by decide +kernel
theorem dL_isSplit_184 : decode cL_isSplit 184 = .ok (.iload 13, 2) := by decide +kernel
theorem dL_isSplit_186 : decode cL_isSplit 186 = .ok (.bipush 111, 2) := by decide +kernel
theorem dL_isSplit_188 : decode cL_isSplit 188 = .ok (.if_icmp .ge 39, 3) := by decide +kernel
theorem dL_isSplit_191 : decode cL_isSplit 191 = .ok (.aload_n 0, 1) := by decide +kernel
theorem dL_isSplit_192 : decode cL_isSplit 192 = .ok (.iload_n 1, 1) := by decide +kernel
theorem dL_isSplit_193 : decode cL_isSplit 193 = .ok (.iload_n 2, 1) := by decide +kernel
theorem dL_isSplit_194 : decode cL_isSplit 194 = .ok (.iload 13, 2) := by decide +kernel
theorem dL_isSplit_196 : decode cL_isSplit 196 = .ok (.iconst 1, 1) := by decide +kernel
theorem dL_isSplit_197 : decode cL_isSplit 197 = .ok (.iload 4, 2) := by decide +kernel
theorem dL_isSplit_199 : decode cL_isSplit 199 = .ok (.iadd, 1) := by decide +kernel
theorem dL_isSplit_200 : decode cL_isSplit 200 = .ok (.invokestatic 131, 3) := by decide +kernel
theorem dL_isSplit_203 : decode cL_isSplit 203 = .ok (.ifCond .ne 24, 3) := by decide +kernel
theorem dL_isSplit_206 : decode cL_isSplit 206 = .ok (.aload_n 0, 1) := by decide +kernel
theorem dL_isSplit_207 : decode cL_isSplit 207 = .ok (.invokestatic 160, 3) := by decide +kernel
theorem dL_isSplit_210 : decode cL_isSplit 210 = .ok (.ifCond .lt 17, 3) := by decide +kernel
theorem dL_isSplit_213 : decode cL_isSplit 213 = .ok (.aload_n 0, 1) := by decide +kernel
theorem dL_isSplit_214 : decode cL_isSplit 214 = .ok (.invokestatic 115, 3) := by decide +kernel
theorem dL_isSplit_217 : decode cL_isSplit 217 = .ok (.lload 6, 2) := by decide +kernel
theorem dL_isSplit_219 : decode cL_isSplit 219 = .ok (.lcmp, 1) := by decide +kernel
theorem dL_isSplit_220 : decode cL_isSplit 220 = .ok (.ifCond .ne 7, 3) := by decide +kernel
theorem dL_isSplit_223 : decode cL_isSplit 223 = .ok (.iconst 1, 1) := by decide +kernel
theorem dL_isSplit_224 : decode cL_isSplit 224 = .ok (.goto 4, 3) := by decide +kernel
theorem dL_isSplit_227 : decode cL_isSplit 227 = .ok (.iconst 0, 1) := by decide +kernel
theorem dL_isSplit_228 : decode cL_isSplit 228 = .ok (.ireturn, 1) := by decide +kernel
