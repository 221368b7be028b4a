theorem dX11_alter_30 : decode cX11_alter 30 = .ok (.bipush (-2), 2) := by decide +kernel
theorem dX11_alter_32 : decode cX11_alter 32 = .ok (.ireturn, 1) := by decide +kernel
theorem dX11_alter_33 : decode cX11_alter 33 = .ok (.aload_n 0, 1) := by decide +kernel
theorem dX11_alter_34 : decode cX11_alter 34 = .ok (.getfield 88, 3) := by decide +kernel
theorem dX11_alter_37 : decode cX11_alter 37 = .ok (.getfield 208, 3) := by decide +kernel
theorem dX11_alter_40 : decode cX11_alter 40 = .ok (.getfield 211, 3) := by decide +kernel
theorem dX11_alter_43 : decode cX11_alter 43 = .ok (.sipush 300, 3) := by decide +kernel
theorem dX11_alter_46 : decode cX11_alter 46 = .ok (.if_icmp .lt 6, 3) := by decide +kernel
theorem dX11_alter_49 : decode cX11_alter 49 = .ok (.bipush (-3), 2) := by decide +kernel
theorem dX11_alter_51 : decode cX11_alter 51 = .ok (.ireturn, 1) := by decide +kernel
theorem dX11_alter_52 : decode cX11_alter 52 = .ok (.aload_n 0, 1) := by decide +kernel
theorem dX11_alter_53 : decode cX11_alter 53 = .ok (.getfield 88, 3) := by decide +kernel
theorem dX11_alter_56 : decode cX11_alter 56 = .ok (.getfield 208, 3) := by decide +kernel
theorem dX11_alter_59 : decode cX11_alter 59 = .ok (.iload_n 1, 1) := by decide +kernel
theorem dX11_alter_60 : decode cX11_alter 60 = .ok (.iload_n 2, 1) := by decide +kernel
theorem dX11_alter_61 : decode cX11_alter 61 = .ok (.bipush 8, 2) := by decide +kernel
theorem dX11_alter_63 : decode cX11_alter 63 = .ok (.ishl, 1) := by decide +kernel
theorem dX11_alter_64 : decode cX11_alter 64 = .ok (.iload_n 3, 1) := by decide +kernel
theorem dX11_alter_65 : decode cX11_alter 65 = .ok (.ior, 1) := by decide +kernel
theorem dX11_alter_66 : decode cX11_alter 66 = .ok (.invokevirtual 200, 3) := by decide +kernel
theorem dX11_alter_69 : decode cX11_alter 69 = .ok (.aload_n 0, 1) := by decide +kernel
theorem dX11_alter_70 : decode cX11_alter 70 = .ok (.getfield 88, 3) := by decide +kernel
theorem dX11_alter_73 : decode cX11_alter 73 = .ok (.getfield 208, 3) := by decide +kernel
theorem dX11_alter_76 : decode cX11_alter 76 = .ok (.getfield 211, 3) := by decide +kernel
theorem dX11_alter_79 : decode cX11_alter 79 = .ok (.ireturn, 1) := by decide +kernel
theorem dX11_tick_0 : decode cX11_tick 0 = .ok (.iload_n 1, 1) := by decide +kernel
theorem dX11_tick_1 : decode cX11_tick 1 = .ok (.iconst 1, 1) := by decide +kernel
theorem dX11_tick_2 : decode cX11_tick 2 = .ok (.bipush 100, 2) := by decide +kernel
theorem dX11_tick_4 : decode cX11_tick 4 = .ok (.invokestatic 104, 3) := by decide +kernel
theorem dX11_tick_7 : decode cX11_tick 7 = .ok (.ifCond .ne 6, 3) := by decide +kernel
theorem dX11_tick_10 : decode cX11_tick 10 = .ok (.bipush (-2), 2) := by decide +kernel
theorem dX11_tick_12 : decode cX11_tick 12 = .ok (.ireturn, 1) := by decide +kernel
theorem dX11_tick_13 : decode cX11_tick 13 = .ok (.aload_n 0, 1) := by decide +kernel
theorem dX11_tick_14 : decode cX11_tick 14 = .ok (.getfield 131, 3) := by decide +kernel
theorem dX11_tick_17 : decode cX11_tick 17 = .ok (.iload_n 1, 1) := by decide +kernel
theorem dX11_tick_18 : decode cX11_tick 18 = .ok (.iadd, 1) := by decide +kernel
theorem dX11_tick_19 : decode cX11_tick 19 = .ok (.sipush 3000, 3) := by decide +kernel
theorem dX11_tick_22 : decode cX11_tick 22 = .ok (.if_icmp .le 6, 3) := by decide +kernel
theorem dX11_tick_25 : decode cX11_tick 25 = .ok (.bipush (-3), 2) := by decide +kernel
theorem dX11_tick_27 : decode cX11_tick 27 = .ok (.ireturn, 1) := by decide +kernel
theorem dX11_tick_28 : decode cX11_tick 28 = .ok (.iconst 0, 1) := by decide +kernel
theorem dX11_tick_29 : decode cX11_tick 29 = .ok (.istore_n 2, 1) := by decide +kernel
theorem dX11_tick_30 : decode cX11_tick 30 = .ok (.iload_n 2, 1) := by decide +kernel
theorem dX11_tick_31 : decode cX11_tick 31 = .ok (.iload_n 1, 1) := by decide +kernel
theorem dX11_tick_32 : decode cX11_tick 32 = .ok (.if_icmp .ge 13, 3) := by decide +kernel
theorem dX11_tick_35 : decode cX11_tick 35 = .ok (.aload_n 0, 1) := by decide +kernel
theorem dX11_tick_36 : decode cX11_tick 36 = .ok (.invokevirtual 212, 3) := by decide +kernel
theorem dX11_tick_39 : decode cX11_tick 39 = .ok (.iinc 2 1, 3) := by decide +kernel
theorem dX11_tick_42 : decode cX11_tick 42 = .ok (.goto (-12), 3) := by decide +kernel
theorem dX11_tick_45 : decode cX11_tick 45 = .ok (.aload_n 0, 1) := by decide +kernel
theorem dX11_tick_46 : decode cX11_tick 46 = .ok (.getfield 131, 3) := by decide +kernel
theorem dX11_tick_49 : decode cX11_tick 49 = .ok (.ireturn, 1) := by decide +kernel
theorem dX11_eventOf_0 : decode cX11_eventOf 0 = .ok (.aload_n 0, 1) := by decide +kernel
theorem dX11_eventOf_1 : decode cX11_eventOf 1 = .ok (.iload_n 1, 1) := by decide +kernel
theorem dX11_eventOf_2 : decode cX11_eventOf 2 = .ok (.iload_n 2, 1) := by decide +kernel
theorem dX11_eventOf_3 : decode cX11_eventOf 3 = .ok (.invokevirtual 140, 3) := by decide +kernel
theorem dX11_eventOf_6 : decode cX11_eventOf 6 = .ok (.ifCond .eq 12, 3) := by decide +kernel
theorem dX11_eventOf_9 : decode cX11_eventOf 9 = .ok (.iload_n 3, 1) := by decide +kernel
theorem dX11_eventOf_10 : decode cX11_eventOf 10 = .ok (.iconst 0, 1) := by decide +kernel
theorem dX11_eventOf_11 : decode cX11_eventOf 11 = .ok (.iconst 3, 1) := by decide +kernel
theorem dX11_eventOf_12 : decode cX11_eventOf 12 = .ok (.invokestatic 104, 3) := by decide +kernel
theorem dX11_eventOf_15 : decode cX11_eventOf 15 = .ok (.ifCond .ne 6, 3) := by decide +kernel
theorem dX11_eventOf_18 : decode cX11_eventOf 18 = .ok (.bipush (-2), 2) := by decide +kernel
theorem dX11_eventOf_20 : decode cX11_eventOf 20 = .ok (.ireturn, 1) := by decide +kernel
theorem dX11_eventOf_21 : decode cX11_eventOf 21 = .ok (.aload_n 0, 1) := by decide +kernel
theorem dX11_eventOf_22 : decode cX11_eventOf 22 = .ok (.getfield 18, 3) := by decide +kernel
theorem dX11_eventOf_25 : decode cX11_eventOf 25 = .ok (.iload_n 1, 1) := by decide +kernel
theorem dX11_eventOf_26 : decode cX11_eventOf 26 = .ok (.aaload, 1) := by decide +kernel
theorem dX11_eventOf_27 : decode cX11_eventOf 27 = .ok (.getfield 215, 3) := by decide +kernel
theorem dX11_eventOf_30 : decode cX11_eventOf 30 = .ok (.iload_n 2, 1) := by decide +kernel
theorem dX11_eventOf_31 : decode cX11_eventOf 31 = .ok (.bipush 7, 2) := by decide +kernel
theorem dX11_eventOf_33 : decode cX11_eventOf 33 = .ok (.imul, 1) := by decide +kernel
theorem dX11_eventOf_34 : decode cX11_eventOf 34 = .ok (.iload_n 3, 1) := by decide +kernel
theorem dX11_eventOf_35 : decode cX11_eventOf 35 = .ok (.iadd, 1) := by decide +kernel
theorem dX11_eventOf_36 : decode cX11_eventOf 36 = .ok (.iaload, 1) := by decide +kernel
theorem dX11_eventOf_37 : decode cX11_eventOf 37 = .ok (.ireturn, 1) := by decide +kernel
theorem dX11_source_0 : decode cX11_source 0 = .ok (.iload_n 1, 1) := by decide +kernel
theorem dX11_source_1 : decode cX11_source 1 = .ok (.invokestatic 128, 3) := by decide +kernel
theorem dX11_source_4 : decode cX11_source 4 = .ok (.ifCond .eq 26, 3) := by decide +kernel
theorem dX11_source_7 : decode cX11_source 7 = .ok (.iload_n 2, 1) := by decide +kernel
theorem dX11_source_8 : decode cX11_source 8 = .ok (.iconst 0, 1) := by decide +kernel
theorem dX11_source_9 : decode cX11_source 9 = .ok (.aload_n 0, 1) := by decide +kernel
theorem dX11_source_10 : decode cX11_source 10 = .ok (.getfield 131, 3) := by decide +kernel
theorem dX11_source_13 : decode cX11_source 13 = .ok (.iconst 1, 1) := by decide +kernel
theorem dX11_source_14 : decode cX11_source 14 = .ok (.isub, 1) := by decide +kernel
theorem dX11_source_15 : decode cX11_source 15 = .ok (.invokestatic 104, 3) := by decide +kernel
theorem dX11_source_18 : decode cX11_source 18 = .ok (.ifCond .eq 12, 3) := by decide +kernel
theorem dX11_source_21 : decode cX11_source 21 = .ok (.iload_n 3, 1) := by decide +kernel
theorem dX11_source_22 : decode cX11_source 22 = .ok (.iconst 0, 1) := by decide +kernel
theorem dX11_source_23 : decode cX11_source 23 = .ok (.iconst 4, 1) := by decide +kernel
theorem dX11_source_24 : decode cX11_source 24 = .ok (.invokestatic 104, 3) := by decide +kernel
theorem dX11_source_27 : decode cX11_source 27 = .ok (.ifCond .ne 6, 3) := by decide +kernel
theorem dX11_source_30 : decode cX11_source 30 = .ok (.bipush (-2), 2) := by decide +kernel
theorem dX11_source_32 : decode cX11_source 32 = .ok (.ireturn, 1) := by decide +kernel
theorem dX11_source_33 : decode cX11_source 33 = .ok (.aload_n 0, 1) := by decide +kernel
theorem dX11_source_34 : decode cX11_source 34 = .ok (.getfield 18, 3) := by decide +kernel
theorem dX11_source_37 : decode cX11_source 37 = .ok (.iload_n 1, 1) := by decide +kernel
theorem dX11_source_38 : decode cX11_source 38 = .ok (.aaload, 1) := by decide +kernel
theorem dX11_source_39 : decode cX11_source 39 = .ok (.getfield 218, 3) := by decide +kernel
theorem dX11_source_42 : decode cX11_source 42 = .ok (.iload_n 2, 1) := by decide +kernel
theorem dX11_source_43 : decode cX11_source 43 = .ok (.iconst 5, 1) := by decide +kernel
theorem dX11_source_44 : decode cX11_source 44 = .ok (.imul, 1) := by decide +kernel
theorem dX11_source_45 : decode cX11_source 45 = .ok (.iload_n 3, 1) := by decide +kernel
theorem dX11_source_46 : decode cX11_source 46 = .ok (.iadd, 1) := by decide +kernel
theorem dX11_source_47 : decode cX11_source 47 = .ok (.iaload, 1) := by decide +kernel
theorem dX11_source_48 : decode cX11_source 48 = .ok (.ireturn, 1) := by decide +kernel
theorem dX11_rows_0 : decode cX11_rows 0 = .ok (.iload_n 1, 1) := by decide +kernel
theorem dX11_rows_1 : decode cX11_rows 1 = .ok (.invokestatic 128, 3) := by decide +kernel
theorem dX11_rows_4 : decode cX11_rows 4 = .ok (.ifCond .eq 15, 3) := by decide +kernel
theorem dX11_rows_7 : decode cX11_rows 7 = .ok (.aload_n 0, 1) := by decide +kernel
theorem dX11_rows_8 : decode cX11_rows 8 = .ok (.getfield 18, 3) := by decide +kernel
theorem dX11_rows_11 : decode cX11_rows 11 = .ok (.iload_n 1, 1) := by decide +kernel
theorem dX11_rows_12 : decode cX11_rows 12 = .ok (.aaload, 1) := by decide +kernel
theorem dX11_rows_13 : decode cX11_rows 13 = .ok (.getfield 221, 3) := by decide +kernel
theorem dX11_rows_16 : decode cX11_rows 16 = .ok (.goto 5, 3) := by decide +kernel
theorem dX11_rows_19 : decode cX11_rows 19 = .ok (.bipush (-2), 2) := by decide +kernel
theorem dX11_rows_21 : decode cX11_rows 21 = .ok (.ireturn, 1) := by decide +kernel
theorem dX11_row_0 : decode cX11_row 0 = .ok (.iload_n 1, 1) := by decide +kernel
theorem dX11_row_1 : decode cX11_row 1 = .ok (.invokestatic 128, 3) := by decide +kernel
theorem dX11_row_4 : decode cX11_row 4 = .ok (.ifCond .eq 31, 3) := by decide +kernel
theorem dX11_row_7 : decode cX11_row 7 = .ok (.iload_n 2, 1) := by decide +kernel
theorem dX11_row_8 : decode cX11_row 8 = .ok (.iconst 0, 1) := by decide +kernel
theorem dX11_row_9 : decode cX11_row 9 = .ok (.aload_n 0, 1) := by decide +kernel
theorem dX11_row_10 : decode cX11_row 10 = .ok (.getfield 18, 3) := by decide +kernel
theorem dX11_row_13 : decode cX11_row 13 = .ok (.iload_n 1, 1) := by decide +kernel
theorem dX11_row_14 : decode cX11_row 14 = .ok (.aaload, 1) := by decide +kernel
theorem dX11_row_15 : decode cX11_row 15 = .ok (.getfield 221, 3) := by decide +kernel
theorem dX11_row_18 : decode cX11_row 18 = .ok (.iconst 1, 1) := by decide +kernel
theorem dX11_row_19 : decode cX11_row 19 = .ok (.isub, 1) := by decide +kernel
theorem dX11_row_20 : decode cX11_row 20 = .ok (.invokestatic 104, 3) := by decide +kernel
theorem dX11_row_23 : decode cX11_row 23 = .ok (.ifCond .eq 12, 3) := by decide +kernel
theorem dX11_row_26 : decode cX11_row 26 = .ok (.iload_n 3, 1) := by decide +kernel
theorem dX11_row_27 : decode cX11_row 27 = .ok (.iconst 0, 1) := by decide +kernel
theorem dX11_row_28 : decode cX11_row 28 = .ok (.iconst 2, 1) := by decide +kernel
theorem dX11_row_29 : decode cX11_row 29 = .ok (.invokestatic 104, 3) := by decide +kernel
theorem dX11_row_32 : decode cX11_row 32 = .ok (.ifCond .ne 6, 3) := by decide +kernel
theorem dX11_row_35 : decode cX11_row 35 = .ok (.bipush (-2), 2) := by decide +kernel
theorem dX11_row_37 : decode cX11_row 37 = .ok (.ireturn, 1) := by decide +kernel
theorem dX11_row_38 : decode cX11_row 38 = .ok (.aload_n 0, 1) := by decide +kernel
theorem dX11_row_39 : decode cX11_row 39 = .ok (.getfield 18, 3) := by decide +kernel
theorem dX11_row_42 : decode cX11_row 42 = .ok (.iload_n 1, 1) := by decide +kernel
theorem dX11_row_43 : decode cX11_row 43 = .ok (.aaload, 1) := by decide +kernel
theorem dX11_row_44 : decode cX11_row 44 = .ok (.astore 4, 2) := by decide +kernel
theorem dX11_row_46 : decode cX11_row 46 = .ok (.aload 4, 2) := by decide +kernel
theorem dX11_row_48 : decode cX11_row 48 = .ok (.getfield 224, 3) := by decide +kernel
theorem dX11_row_51 : decode cX11_row 51 = .ok (.iload_n 2, 1) := by decide +kernel
theorem dX11_row_52 : decode cX11_row 52 = .ok (.iaload, 1) := by decide +kernel
theorem dX11_row_53 : decode cX11_row 53 = .ok (.istore 5, 2) := by decide +kernel
theorem dX11_row_55 : decode cX11_row 55 = .ok (.iload_n 2, 1) := by decide +kernel
theorem dX11_row_56 : decode cX11_row 56 = .ok (.iconst 1, 1) := by decide +kernel
theorem dX11_row_57 : decode cX11_row 57 = .ok (.iadd, 1) := by decide +kernel
theorem dX11_row_58 : decode cX11_row 58 = .ok (.aload 4, 2) := by decide +kernel
theorem dX11_row_60 : decode cX11_row 60 = .ok (.getfield 221, 3) := by decide +kernel
theorem dX11_row_63 : decode cX11_row 63 = .ok (.if_icmp .ge 15, 3) := by decide +kernel
theorem dX11_row_66 : decode cX11_row 66 = .ok (.aload 4, 2) := by decide +kernel
theorem dX11_row_68 : decode cX11_row 68 = .ok (.getfield 224, 3) := by decide +kernel
theorem dX11_row_71 : decode cX11_row 71 = .ok (.iload_n 2, 1) := by decide +kernel
theorem dX11_row_72 : decode cX11_row 72 = .ok (.iconst 1, 1) := by decide +kernel
theorem dX11_row_73 : decode cX11_row 73 = .ok (.iadd, 1) := by decide +kernel
theorem dX11_row_74 : decode cX11_row 74 = .ok (.iaload, 1) := by decide +kernel
theorem dX11_row_75 : decode cX11_row 75 = .ok (.goto 7, 3) := by decide +kernel
theorem dX11_row_78 : decode cX11_row 78 = .ok (.aload_n 0, 1) := by decide +kernel
theorem dX11_row_79 : decode cX11_row 79 = .ok (.getfield 131, 3) := by decide +kernel
theorem dX11_row_82 : decode cX11_row 82 = .ok (.istore 6, 2) := by decide +kernel
theorem dX11_row_84 : decode cX11_row 84 = .ok (.iload_n 3, 1) := by decide +kernel
theorem dX11_row_85 : decode cX11_row 85 = .ok (.ifCond .ne 6, 3) := by decide +kernel
theorem dX11_row_88 : decode cX11_row 88 = .ok (.iload 5, 2) := by decide +kernel
theorem dX11_row_90 : decode cX11_row 90 = .ok (.ireturn, 1) := by decide +kernel
theorem dX11_row_91 : decode cX11_row 91 = .ok (.iload_n 3, 1) := by decide +kernel
theorem dX11_row_92 : decode cX11_row 92 = .ok (.iconst 1, 1) := by decide +kernel
theorem dX11_row_93 : decode cX11_row 93 = .ok (.if_icmp .ne 11, 3) := by decide +kernel
theorem dX11_row_96 : decode cX11_row 96 = .ok (.iload 6, 2) := by decide +kernel
theorem dX11_row_98 : decode cX11_row 98 = .ok (.iload 5, 2) := by decide +kernel
theorem dX11_row_100 : decode cX11_row 100 = .ok (.isub, 1) := by decide +kernel
theorem dX11_row_101 : decode cX11_row 101 = .ok (.goto 12, 3) := by decide +kernel
theorem dX11_row_104 : decode cX11_row 104 = .ok (.aload_n 0, 1) := by decide +kernel
theorem dX11_row_105 : decode cX11_row 105 = .ok (.iload_n 1, 1) := by decide +kernel
theorem dX11_row_106 : decode cX11_row 106 = .ok (.iload 5, 2) := by decide +kernel
theorem dX11_row_108 : decode cX11_row 108 = .ok (.iload 6, 2) := by decide +kernel
theorem dX11_row_110 : decode cX11_row 110 = .ok (.invokevirtual 227, 3) := by decide +kernel
theorem dX11_row_113 : decode cX11_row 113 = .ok (.ireturn, 1) := by decide +kernel
theorem dX11_unit_0 : decode cX11_unit 0 = .ok (.iload_n 1, 1) := by decide +kernel
theorem dX11_unit_1 : decode cX11_unit 1 = .ok (.invokestatic 128, 3) := by decide +kernel
theorem dX11_unit_4 : decode cX11_unit 4 = .ok (.ifCond .eq 26, 3) := by decide +kernel
theorem dX11_unit_7 : decode cX11_unit 7 = .ok (.iload_n 2, 1) := by decide +kernel
theorem dX11_unit_8 : decode cX11_unit 8 = .ok (.iconst 0, 1) := by decide +kernel
theorem dX11_unit_9 : decode cX11_unit 9 = .ok (.aload_n 0, 1) := by decide +kernel
theorem dX11_unit_10 : decode cX11_unit 10 = .ok (.getfield 131, 3) := by decide +kernel
theorem dX11_unit_13 : decode cX11_unit 13 = .ok (.iconst 1, 1) := by decide +kernel
theorem dX11_unit_14 : decode cX11_unit 14 = .ok (.isub, 1) := by decide +kernel
theorem dX11_unit_15 : decode cX11_unit 15 = .ok (.invokestatic 104, 3) := by decide +kernel
theorem dX11_unit_18 : decode cX11_unit 18 = .ok (.ifCond .eq 12, 3) := by decide +kernel
theorem dX11_unit_21 : decode cX11_unit 21 = .ok (.iload_n 3, 1) := by decide +kernel
theorem dX11_unit_22 : decode cX11_unit 22 = .ok (.iconst 0, 1) := by decide +kernel
theorem dX11_unit_23 : decode cX11_unit 23 = .ok (.iconst 4, 1) := by decide +kernel
theorem dX11_unit_24 : decode cX11_unit 24 = .ok (.invokestatic 104, 3) := by decide +kernel
theorem dX11_unit_27 : decode cX11_unit 27 = .ok (.ifCond .ne 6, 3) := by decide +kernel
theorem dX11_unit_30 : decode cX11_unit 30 = .ok (.bipush (-2), 2) := by decide +kernel
theorem dX11_unit_32 : decode cX11_unit 32 = .ok (.ireturn, 1) := by decide +kernel
theorem dX11_unit_33 : decode cX11_unit 33 = .ok (.aload_n 0, 1) := by decide +kernel
theorem dX11_unit_34 : decode cX11_unit 34 = .ok (.getfield 24, 3) := by decide +kernel
theorem dX11_unit_37 : decode cX11_unit 37 = .ok (.iload_n 1, 1) := by decide +kernel
theorem dX11_unit_38 : decode cX11_unit 38 = .ok (.aaload, 1) := by decide +kernel
theorem dX11_unit_39 : decode cX11_unit 39 = .ok (.getfield 231, 3) := by decide +kernel
theorem dX11_unit_42 : decode cX11_unit 42 = .ok (.iload_n 2, 1) := by decide +kernel
theorem dX11_unit_43 : decode cX11_unit 43 = .ok (.iconst 5, 1) := by decide +kernel
theorem dX11_unit_44 : decode cX11_unit 44 = .ok (.imul, 1) := by decide +kernel
theorem dX11_unit_45 : decode cX11_unit 45 = .ok (.iload_n 3, 1) := by decide +kernel
theorem dX11_unit_46 : decode cX11_unit 46 = .ok (.iadd, 1) := by decide +kernel
theorem dX11_unit_47 : decode cX11_unit 47 = .ok (.iaload, 1) := by decide +kernel
theorem dX11_unit_48 : decode cX11_unit 48 = .ok (.ireturn, 1) := by decide +kernel
theorem dX11_sent_0 : decode cX11_sent 0 = .ok (.iload_n 2, 1) := by decide +kernel
theorem dX11_sent_1 : decode cX11_sent 1 = .ok (.iconst 0, 1) := by decide +kernel
theorem dX11_sent_2 : decode cX11_sent 2 = .ok (.sipush 187, 3) := by decide +kernel
theorem dX11_sent_5 : decode cX11_sent 5 = .ok (.invokestatic 104, 3) := by decide +kernel
theorem dX11_sent_8 : decode cX11_sent 8 = .ok (.ifCond .ne 6, 3) := by decide +kernel
theorem dX11_sent_11 : decode cX11_sent 11 = .ok (.bipush (-2), 2) := by decide +kernel
theorem dX11_sent_13 : decode cX11_sent 13 = .ok (.ireturn, 1) := by decide +kernel
theorem dX11_sent_14 : decode cX11_sent 14 = .ok (.iload_n 1, 1) := by decide +kernel
theorem dX11_sent_15 : decode cX11_sent 15 = .ok (.iconst 0, 1) := by decide +kernel
theorem dX11_sent_16 : decode cX11_sent 16 = .ok (.aload_n 0, 1) := by decide +kernel
theorem dX11_sent_17 : decode cX11_sent 17 = .ok (.getfield 75, 3) := by decide +kernel
theorem dX11_sent_20 : decode cX11_sent 20 = .ok (.getfield 234, 3) := by decide +kernel
theorem dX11_sent_23 : decode cX11_sent 23 = .ok (.sipush 256, 3) := by decide +kernel
theorem dX11_sent_26 : decode cX11_sent 26 = .ok (.isub, 1) := by decide +kernel
theorem dX11_sent_27 : decode cX11_sent 27 = .ok (.invokestatic 51, 3) := by decide +kernel
theorem dX11_sent_30 : decode cX11_sent 30 = .ok (.aload_n 0, 1) := by decide +kernel
theorem dX11_sent_31 : decode cX11_sent 31 = .ok (.getfield 75, 3) := by decide +kernel
theorem dX11_sent_34 : decode cX11_sent 34 = .ok (.getfield 234, 3) := by decide +kernel
theorem dX11_sent_37 : decode cX11_sent 37 = .ok (.iconst 1, 1) := by decide +kernel
theorem dX11_sent_38 : decode cX11_sent 38 = .ok (.isub, 1) := by decide +kernel
theorem dX11_sent_39 : decode cX11_sent 39 = .ok (.invokestatic 104, 3) := by decide +kernel
theorem dX11_sent_42 : decode cX11_sent 42 = .ok (.ifCond .ne 5, 3) := by decide +kernel
theorem dX11_sent_45 : decode cX11_sent 45 = .ok (.iconst (-1), 1) := by decide +kernel
theorem dX11_sent_46 : decode cX11_sent 46 = .ok (.ireturn, 1) := by decide +kernel
theorem dX11_sent_47 : decode cX11_sent 47 = .ok (.aload_n 0, 1) := by decide +kernel
theorem dX11_sent_48 : decode cX11_sent 48 = .ok (.getfield 75, 3) := by decide +kernel
theorem dX11_sent_51 : decode cX11_sent 51 = .ok (.getfield 81, 3) := by decide +kernel
theorem dX11_sent_54 : decode cX11_sent 54 = .ok (.iload_n 1, 1) := by decide +kernel
theorem dX11_sent_55 : decode cX11_sent 55 = .ok (.sipush 256, 3) := by decide +kernel
theorem dX11_sent_58 : decode cX11_sent 58 = .ok (.irem, 1) := by decide +kernel
theorem dX11_sent_59 : decode cX11_sent 59 = .ok (.sipush 188, 3) := by decide +kernel
theorem dX11_sent_62 : decode cX11_sent 62 = .ok (.imul, 1) := by decide +kernel
theorem dX11_sent_63 : decode cX11_sent 63 = .ok (.iload_n 2, 1) := by decide +kernel
theorem dX11_sent_64 : decode cX11_sent 64 = .ok (.iadd, 1) := by decide +kernel
theorem dX11_sent_65 : decode cX11_sent 65 = .ok (.baload, 1) := by decide +kernel
theorem dX11_sent_66 : decode cX11_sent 66 = .ok (.sipush 255, 3) := by decide +kernel
theorem dX11_sent_69 : decode cX11_sent 69 = .ok (.iand, 1) := by decide +kernel
theorem dX11_sent_70 : decode cX11_sent 70 = .ok (.ireturn, 1) := by decide +kernel
theorem dX11_stored_0 : decode cX11_stored 0 = .ok (.iload_n 1, 1) := by decide +kernel
theorem dX11_stored_1 : decode cX11_stored 1 = .ok (.invokestatic 128, 3) := by decide +kernel
theorem dX11_stored_4 : decode cX11_stored 4 = .ok (.ifCond .eq 15, 3) := by decide +kernel
theorem dX11_stored_7 : decode cX11_stored 7 = .ok (.aload_n 0, 1) := by decide +kernel
theorem dX11_stored_8 : decode cX11_stored 8 = .ok (.getfield 24, 3) := by decide +kernel
theorem dX11_stored_11 : decode cX11_stored 11 = .ok (.iload_n 1, 1) := by decide +kernel
theorem dX11_stored_12 : decode cX11_stored 12 = .ok (.aaload, 1) := by decide +kernel
theorem dX11_stored_13 : decode cX11_stored 13 = .ok (.getfield 235, 3) := by decide +kernel
theorem dX11_stored_16 : decode cX11_stored 16 = .ok (.goto 5, 3) := by decide +kernel
theorem dX11_stored_19 : decode cX11_stored 19 = .ok (.bipush (-2), 2) := by decide +kernel
theorem dX11_stored_21 : decode cX11_stored 21 = .ok (.ireturn, 1) := by decide +kernel
theorem dX11_shown_0 : decode cX11_shown 0 = .ok (.iload_n 1, 1) := by decide +kernel
theorem dX11_shown_1 : decode cX11_shown 1 = .ok (.invokestatic 128, 3) := by decide +kernel
theorem dX11_shown_4 : decode cX11_shown 4 = .ok (.ifCond .eq 29, 3) := by decide +kernel
theorem dX11_shown_7 : decode cX11_shown 7 = .ok (.iload_n 2, 1) := by decide +kernel
theorem dX11_shown_8 : decode cX11_shown 8 = .ok (.iconst 0, 1) := by decide +kernel
theorem dX11_shown_9 : decode cX11_shown 9 = .ok (.aload_n 0, 1) := by decide +kernel
theorem dX11_shown_10 : decode cX11_shown 10 = .ok (.getfield 100, 3) := by decide +kernel
theorem dX11_shown_13 : decode cX11_shown 13 = .ok (.getfield 238, 3) := by decide +kernel
theorem dX11_shown_16 : decode cX11_shown 16 = .ok (.iconst 1, 1) := by decide +kernel
theorem dX11_shown_17 : decode cX11_shown 17 = .ok (.isub, 1) := by decide +kernel
theorem dX11_shown_18 : decode cX11_shown 18 = .ok (.invokestatic 104, 3) := by decide +kernel
theorem dX11_shown_21 : decode cX11_shown 21 = .ok (.ifCond .eq 12, 3) := by decide +kernel
theorem dX11_shown_24 : decode cX11_shown 24 = .ok (.iload_n 3, 1) := by decide +kernel
theorem dX11_shown_25 : decode cX11_shown 25 = .ok (.iconst 0, 1) := by decide +kernel
theorem dX11_shown_26 : decode cX11_shown 26 = .ok (.iconst 2, 1) := by decide +kernel
theorem dX11_shown_27 : decode cX11_shown 27 = .ok (.invokestatic 104, 3) := by decide +kernel
theorem dX11_shown_30 : decode cX11_shown 30 = .ok (.ifCond .ne 6, 3) := by decide +kernel
theorem dX11_shown_33 : decode cX11_shown 33 = .ok (.bipush (-2), 2) := by decide +kernel
theorem dX11_shown_35 : decode cX11_shown 35 = .ok (.ireturn, 1) := by decide +kernel
theorem dX11_shown_36 : decode cX11_shown 36 = .ok (.aload_n 0, 1) := by decide +kernel
theorem dX11_shown_37 : decode cX11_shown 37 = .ok (.getfield 30, 3) := by decide +kernel
theorem dX11_shown_40 : decode cX11_shown 40 = .ok (.iload_n 1, 1) := by decide +kernel
theorem dX11_shown_41 : decode cX11_shown 41 = .ok (.aaload, 1) := by decide +kernel
theorem dX11_shown_42 : decode cX11_shown 42 = .ok (.getfield 241, 3) := by decide +kernel
theorem dX11_shown_45 : decode cX11_shown 45 = .ok (.iload_n 2, 1) := by decide +kernel
theorem dX11_shown_46 : decode cX11_shown 46 = .ok (.iconst 5, 1) := by decide +kernel
theorem dX11_shown_47 : decode cX11_shown 47 = .ok (.imul, 1) := by decide +kernel
theorem dX11_shown_48 : decode cX11_shown 48 = .ok (.iload_n 3, 1) := by decide +kernel
theorem dX11_shown_49 : decode cX11_shown 49 = .ok (.iadd, 1) := by decide +kernel
theorem dX11_shown_50 : decode cX11_shown 50 = .ok (.iaload, 1) := by decide +kernel
theorem dX11_shown_51 : decode cX11_shown 51 = .ok (.ireturn, 1) := by decide +kernel
theorem dX11_region_0 : decode cX11_region 0 = .ok (.iload_n 1, 1) := by decide +kernel
theorem dX11_region_1 : decode cX11_region 1 = .ok (.iconst 0, 1) := by decide +kernel
theorem dX11_region_2 : decode cX11_region 2 = .ok (.aload_n 0, 1) := by decide +kernel
theorem dX11_region_3 : decode cX11_region 3 = .ok (.getfield 100, 3) := by decide +kernel
theorem dX11_region_6 : decode cX11_region 6 = .ok (.getfield 238, 3) := by decide +kernel
theorem dX11_region_9 : decode cX11_region 9 = .ok (.iconst 1, 1) := by decide +kernel
theorem dX11_region_10 : decode cX11_region 10 = .ok (.isub, 1) := by decide +kernel
theorem dX11_region_11 : decode cX11_region 11 = .ok (.invokestatic 104, 3) := by decide +kernel
theorem dX11_region_14 : decode cX11_region 14 = .ok (.ifCond .eq 12, 3) := by decide +kernel
theorem dX11_region_17 : decode cX11_region 17 = .ok (.iload_n 2, 1) := by decide +kernel
theorem dX11_region_18 : decode cX11_region 18 = .ok (.iconst 0, 1) := by decide +kernel
theorem dX11_region_19 : decode cX11_region 19 = .ok (.iconst 1, 1) := by decide +kernel
theorem dX11_region_20 : decode cX11_region 20 = .ok (.invokestatic 104, 3) := by decide +kernel
theorem dX11_region_23 : decode cX11_region 23 = .ok (.ifCond .ne 6, 3) := by decide +kernel
theorem dX11_region_26 : decode cX11_region 26 = .ok (.bipush (-2), 2) := by decide +kernel
theorem dX11_region_28 : decode cX11_region 28 = .ok (.ireturn, 1) := by decide +kernel
theorem dX11_region_29 : decode cX11_region 29 = .ok (.aload_n 0, 1) := by decide +kernel
theorem dX11_region_30 : decode cX11_region 30 = .ok (.getfield 37, 3) := by decide +kernel
theorem dX11_region_33 : decode cX11_region 33 = .ok (.getfield 244, 3) := by decide +kernel
theorem dX11_region_36 : decode cX11_region 36 = .ok (.iload_n 1, 1) := by decide +kernel
theorem dX11_region_37 : decode cX11_region 37 = .ok (.iconst 2, 1) := by decide +kernel
theorem dX11_region_38 : decode cX11_region 38 = .ok (.imul, 1) := by decide +kernel
theorem dX11_region_39 : decode cX11_region 39 = .ok (.iload_n 2, 1) := by decide +kernel
theorem dX11_region_40 : decode cX11_region 40 = .ok (.iadd, 1) := by decide +kernel
theorem dX11_region_41 : decode cX11_region 41 = .ok (.iaload, 1) := by decide +kernel
theorem dX11_region_42 : decode cX11_region 42 = .ok (.ireturn, 1) := by decide +kernel
theorem dX11_alarm_0 : decode cX11_alarm 0 = .ok (.iload_n 1, 1) := by decide +kernel
theorem dX11_alarm_1 : decode cX11_alarm 1 = .ok (.invokestatic 128, 3) := by decide +kernel
theorem dX11_alarm_4 : decode cX11_alarm 4 = .ok (.ifCond .eq 22, 3) := by decide +kernel
theorem dX11_alarm_7 : decode cX11_alarm 7 = .ok (.iload_n 2, 1) := by decide +kernel
theorem dX11_alarm_8 : decode cX11_alarm 8 = .ok (.iconst 0, 1) := by decide +kernel
theorem dX11_alarm_9 : decode cX11_alarm 9 = .ok (.aload_n 0, 1) := by decide +kernel
theorem dX11_alarm_10 : decode cX11_alarm 10 = .ok (.getfield 30, 3) := by decide +kernel
theorem dX11_alarm_13 : decode cX11_alarm 13 = .ok (.iload_n 1, 1) := by decide +kernel
theorem dX11_alarm_14 : decode cX11_alarm 14 = .ok (.aaload, 1) := by decide +kernel
theorem dX11_alarm_15 : decode cX11_alarm 15 = .ok (.getfield 245, 3) := by decide +kernel
theorem dX11_alarm_18 : decode cX11_alarm 18 = .ok (.iconst 1, 1) := by decide +kernel
theorem dX11_alarm_19 : decode cX11_alarm 19 = .ok (.isub, 1) := by decide +kernel
theorem dX11_alarm_20 : decode cX11_alarm 20 = .ok (.invokestatic 104, 3) := by decide +kernel
theorem dX11_alarm_23 : decode cX11_alarm 23 = .ok (.ifCond .ne 6, 3) := by decide +kernel
theorem dX11_alarm_26 : decode cX11_alarm 26 = .ok (.bipush (-2), 2) := by decide +kernel
theorem dX11_alarm_28 : decode cX11_alarm 28 = .ok (.ireturn, 1) := by decide +kernel
theorem dX11_alarm_29 : decode cX11_alarm 29 = .ok (.iload_n 3, 1) := by decide +kernel
theorem dX11_alarm_30 : decode cX11_alarm 30 = .ok (.iconst 0, 1) := by decide +kernel
theorem dX11_alarm_31 : decode cX11_alarm 31 = .ok (.iconst 2, 1) := by decide +kernel
theorem dX11_alarm_32 : decode cX11_alarm 32 = .ok (.invokestatic 104, 3) := by decide +kernel
theorem dX11_alarm_35 : decode cX11_alarm 35 = .ok (.ifCond .eq 21, 3) := by decide +kernel
theorem dX11_alarm_38 : decode cX11_alarm 38 = .ok (.aload_n 0, 1) := by decide +kernel
theorem dX11_alarm_39 : decode cX11_alarm 39 = .ok (.getfield 30, 3) := by decide +kernel
theorem dX11_alarm_42 : decode cX11_alarm 42 = .ok (.iload_n 1, 1) := by decide +kernel
theorem dX11_alarm_43 : decode cX11_alarm 43 = .ok (.aaload, 1) := by decide +kernel
theorem dX11_alarm_44 : decode cX11_alarm 44 = .ok (.getfield 248, 3) := by decide +kernel
theorem dX11_alarm_47 : decode cX11_alarm 47 = .ok (.iload_n 2, 1) := by decide +kernel
theorem dX11_alarm_48 : decode cX11_alarm 48 = .ok (.iconst 3, 1) := by decide +kernel
theorem dX11_alarm_49 : decode cX11_alarm 49 = .ok (.imul, 1) := by decide +kernel
theorem dX11_alarm_50 : decode cX11_alarm 50 = .ok (.iload_n 3, 1) := by decide +kernel
theorem dX11_alarm_51 : decode cX11_alarm 51 = .ok (.iadd, 1) := by decide +kernel
theorem dX11_alarm_52 : decode cX11_alarm 52 = .ok (.iaload, 1) := by decide +kernel
theorem dX11_alarm_53 : decode cX11_alarm 53 = .ok (.goto 5, 3) := by decide +kernel
theorem dX11_alarm_56 : decode cX11_alarm 56 = .ok (.bipush (-2), 2) := by decide +kernel
theorem dX11_alarm_58 : decode cX11_alarm 58 = .ok (.ireturn, 1) := by decide +kernel
theorem dX11_faults_0 : decode cX11_faults 0 = .ok (.iload_n 1, 1) := by decide +kernel
theorem dX11_faults_1 : decode cX11_faults 1 = .ok (.iconst 0, 1) := by decide +kernel
theorem dX11_faults_2 : decode cX11_faults 2 = .ok (.bipush 8, 2) := by decide +kernel
theorem dX11_faults_4 : decode cX11_faults 4 = .ok (.invokestatic 104, 3) := by decide +kernel
theorem dX11_faults_7 : decode cX11_faults 7 = .ok (.ifCond .eq 15, 3) := by decide +kernel
theorem dX11_faults_10 : decode cX11_faults 10 = .ok (.aload_n 0, 1) := by decide +kernel
theorem dX11_faults_11 : decode cX11_faults 11 = .ok (.getfield 100, 3) := by decide +kernel
theorem dX11_faults_14 : decode cX11_faults 14 = .ok (.getfield 251, 3) := by decide +kernel
theorem dX11_faults_17 : decode cX11_faults 17 = .ok (.iload_n 1, 1) := by decide +kernel
theorem dX11_faults_18 : decode cX11_faults 18 = .ok (.iaload, 1) := by decide +kernel
theorem dX11_faults_19 : decode cX11_faults 19 = .ok (.goto 5, 3) := by decide +kernel
theorem dX11_faults_22 : decode cX11_faults 22 = .ok (.bipush (-2), 2) := by decide +kernel
theorem dX11_faults_24 : decode cX11_faults 24 = .ok (.ireturn, 1) := by decide +kernel
theorem dX11_told_0 : decode cX11_told 0 = .ok (.iload_n 1, 1) := by decide +kernel
theorem dX11_told_1 : decode cX11_told 1 = .ok (.tableswitch 145 0 11 #[63, 68, 76, 84, 92, 100, 108, 116, 124, 132, 132, 132], 63) := by decide +kernel
theorem dX11_told_64 : decode cX11_told 64 = .ok (.aload_n 0, 1) := by decide +kernel
theorem dX11_told_65 : decode cX11_told 65 = .ok (.getfield 131, 3) := by decide +kernel
theorem dX11_told_68 : decode cX11_told 68 = .ok (.ireturn, 1) := by decide +kernel
theorem dX11_told_69 : decode cX11_told 69 = .ok (.aload_n 0, 1) := by decide +kernel
theorem dX11_told_70 : decode cX11_told 70 = .ok (.getfield 75, 3) := by decide +kernel
theorem dX11_told_73 : decode cX11_told 73 = .ok (.getfield 234, 3) := by decide +kernel
theorem dX11_told_76 : decode cX11_told 76 = .ok (.ireturn, 1) := by decide +kernel
theorem dX11_told_77 : decode cX11_told 77 = .ok (.aload_n 0, 1) := by decide +kernel
theorem dX11_told_78 : decode cX11_told 78 = .ok (.getfield 88, 3) := by decide +kernel
theorem dX11_told_81 : decode cX11_told 81 = .ok (.getfield 188, 3) := by decide +kernel
theorem dX11_told_84 : decode cX11_told 84 = .ok (.ireturn, 1) := by decide +kernel
theorem dX11_told_85 : decode cX11_told 85 = .ok (.aload_n 0, 1) := by decide +kernel
theorem dX11_told_86 : decode cX11_told 86 = .ok (.getfield 88, 3) := by decide +kernel
theorem dX11_told_89 : decode cX11_told 89 = .ok (.getfield 254, 3) := by decide +kernel
theorem dX11_told_92 : decode cX11_told 92 = .ok (.ireturn, 1) := by decide +kernel
theorem dX11_told_93 : decode cX11_told 93 = .ok (.aload_n 0, 1) := by decide +kernel
theorem dX11_told_94 : decode cX11_told 94 = .ok (.getfield 88, 3) := by decide +kernel
theorem dX11_told_97 : decode cX11_told 97 = .ok (.getfield 257, 3) := by decide +kernel
theorem dX11_told_100 : decode cX11_told 100 = .ok (.ireturn, 1) := by decide +kernel
theorem dX11_told_101 : decode cX11_told 101 = .ok (.aload_n 0, 1) := by decide +kernel
theorem dX11_told_102 : decode cX11_told 102 = .ok (.getfield 100, 3) := by decide +kernel
theorem dX11_told_105 : decode cX11_told 105 = .ok (.getfield 260, 3) := by decide +kernel
theorem dX11_told_108 : decode cX11_told 108 = .ok (.ireturn, 1) := by decide +kernel
theorem dX11_told_109 : decode cX11_told 109 = .ok (.aload_n 0, 1) := by decide +kernel
theorem dX11_told_110 : decode cX11_told 110 = .ok (.getfield 100, 3) := by decide +kernel
theorem dX11_told_113 : decode cX11_told 113 = .ok (.getfield 263, 3) := by decide +kernel
theorem dX11_told_116 : decode cX11_told 116 = .ok (.ireturn, 1) := by decide +kernel
theorem dX11_told_117 : decode cX11_told 117 = .ok (.aload_n 0, 1) := by decide +kernel
theorem dX11_told_118 : decode cX11_told 118 = .ok (.getfield 100, 3) := by decide +kernel
theorem dX11_told_121 : decode cX11_told 121 = .ok (.getfield 238, 3) := by decide +kernel
theorem dX11_told_124 : decode cX11_told 124 = .ok (.ireturn, 1) := by decide +kernel
theorem dX11_told_125 : decode cX11_told 125 = .ok (.aload_n 0, 1) := by decide +kernel
theorem dX11_told_126 : decode cX11_told 126 = .ok (.getfield 75, 3) := by decide +kernel
theorem dX11_told_129 : decode cX11_told 129 = .ok (.getfield 266, 3) := by decide +kernel
theorem dX11_told_132 : decode cX11_told 132 = .ok (.ireturn, 1) := by decide +kernel
theorem dX11_told_133 : decode cX11_told 133 = .ok (.aload_n 0, 1) := by decide +kernel
theorem dX11_told_134 : decode cX11_told 134 = .ok (.getfield 30, 3) := by decide +kernel
theorem dX11_told_137 : decode cX11_told 137 = .ok (.iload_n 1, 1) := by decide +kernel
theorem dX11_told_138 : decode cX11_told 138 = .ok (.bipush 9, 2) := by decide +kernel
theorem dX11_told_140 : decode cX11_told 140 = .ok (.isub, 1) := by decide +kernel
theorem dX11_told_141 : decode cX11_told 141 = .ok (.aaload, 1) := by decide +kernel
theorem dX11_told_142 : decode cX11_told 142 = .ok (.getfield 245, 3) := by decide +kernel
theorem dX11_told_145 : decode cX11_told 145 = .ok (.ireturn, 1) := by decide +kernel
theorem dX11_told_146 : decode cX11_told 146 = .ok (.bipush (-2), 2) := by decide +kernel
theorem dX11_told_148 : decode cX11_told 148 = .ok (.ireturn, 1) := by decide +kernel
theorem dX11_within_0 : decode cX11_within 0 = .ok (.iload_n 0, 1) := by decide +kernel
theorem dX11_within_1 : decode cX11_within 1 = .ok (.iload_n 1, 1) := by decide +kernel
theorem dX11_within_2 : decode cX11_within 2 = .ok (.if_icmp .lt 12, 3) := by decide +kernel
theorem dX11_within_5 : decode cX11_within 5 = .ok (.iload_n 0, 1) := by decide +kernel
theorem dX11_within_6 : decode cX11_within 6 = .ok (.iload_n 2, 1) := by decide +kernel
theorem dX11_within_7 : decode cX11_within 7 = .ok (.if_icmp .gt 7, 3) := by decide +kernel
theorem dX11_within_10 : decode cX11_within 10 = .ok (.iconst 1, 1) := by decide +kernel
theorem dX11_within_11 : decode cX11_within 11 = .ok (.goto 4, 3) := by decide +kernel
theorem dX11_within_14 : decode cX11_within 14 = .ok (.iconst 0, 1) := by decide +kernel
theorem dX11_within_15 : decode cX11_within 15 = .ok (.ireturn, 1) := by decide +kernel
theorem dX11_isChannel_0 : decode cX11_isChannel 0 = .ok (.iload_n 0, 1) := by decide +kernel
theorem dX11_isChannel_1 : decode cX11_isChannel 1 = .ok (.iconst 0, 1) := by decide +kernel
theorem dX11_isChannel_2 : decode cX11_isChannel 2 = .ok (.iconst 2, 1) := by decide +kernel
theorem dX11_isChannel_3 : decode cX11_isChannel 3 = .ok (.invokestatic 104, 3) := by decide +kernel
theorem dX11_isChannel_6 : decode cX11_isChannel 6 = .ok (.ireturn, 1) := by decide +kernel
theorem dX11_isEvent_0 : decode cX11_isEvent 0 = .ok (.iload_n 1, 1) := by decide +kernel
theorem dX11_isEvent_1 : decode cX11_isEvent 1 = .ok (.invokestatic 128, 3) := by decide +kernel
theorem dX11_isEvent_4 : decode cX11_isEvent 4 = .ok (.ifCond .eq 26, 3) := by decide +kernel
theorem dX11_isEvent_7 : decode cX11_isEvent 7 = .ok (.iload_n 2, 1) := by decide +kernel
theorem dX11_isEvent_8 : decode cX11_isEvent 8 = .ok (.iconst 0, 1) := by decide +kernel
theorem dX11_isEvent_9 : decode cX11_isEvent 9 = .ok (.aload_n 0, 1) := by decide +kernel
theorem dX11_isEvent_10 : decode cX11_isEvent 10 = .ok (.getfield 18, 3) := by decide +kernel
theorem dX11_isEvent_13 : decode cX11_isEvent 13 = .ok (.iload_n 1, 1) := by decide +kernel
theorem dX11_isEvent_14 : decode cX11_isEvent 14 = .ok (.aaload, 1) := by decide +kernel
theorem dX11_isEvent_15 : decode cX11_isEvent 15 = .ok (.getfield 269, 3) := by decide +kernel
theorem dX11_isEvent_18 : decode cX11_isEvent 18 = .ok (.iconst 1, 1) := by decide +kernel
theorem dX11_isEvent_19 : decode cX11_isEvent 19 = .ok (.isub, 1) := by decide +kernel
theorem dX11_isEvent_20 : decode cX11_isEvent 20 = .ok (.invokestatic 104, 3) := by decide +kernel
theorem dX11_isEvent_23 : decode cX11_isEvent 23 = .ok (.ifCond .eq 7, 3) := by decide +kernel
theorem dX11_isEvent_26 : decode cX11_isEvent 26 = .ok (.iconst 1, 1) := by decide +kernel
theorem dX11_isEvent_27 : decode cX11_isEvent 27 = .ok (.goto 4, 3) := by decide +kernel
theorem dX11_isEvent_30 : decode cX11_isEvent 30 = .ok (.iconst 0, 1) := by decide +kernel
theorem dX11_isEvent_31 : decode cX11_isEvent 31 = .ok (.ireturn, 1) := by decide +kernel
theorem dX11_isToBeSent_0 : decode cX11_isToBeSent 0 = .ok (.iload_n 1, 1) := by decide +kernel
theorem dX11_isToBeSent_1 : decode cX11_isToBeSent 1 = .ok (.aload_n 0, 1) := by decide +kernel
theorem dX11_isToBeSent_2 : decode cX11_isToBeSent 2 = .ok (.getfield 75, 3) := by decide +kernel
theorem dX11_isToBeSent_5 : decode cX11_isToBeSent 5 = .ok (.getfield 234, 3) := by decide +kernel
theorem dX11_isToBeSent_8 : decode cX11_isToBeSent 8 = .ok (.sipush 3000, 3) := by decide +kernel
theorem dX11_isToBeSent_11 : decode cX11_isToBeSent 11 = .ok (.aload_n 0, 1) := by decide +kernel
theorem dX11_isToBeSent_12 : decode cX11_isToBeSent 12 = .ok (.getfield 54, 3) := by decide +kernel
theorem dX11_isToBeSent_15 : decode cX11_isToBeSent 15 = .ok (.imul, 1) := by decide +kernel
theorem dX11_isToBeSent_16 : decode cX11_isToBeSent 16 = .ok (.iconst 1, 1) := by decide +kernel
theorem dX11_isToBeSent_17 : decode cX11_isToBeSent 17 = .ok (.isub, 1) := by decide +kernel
theorem dX11_isToBeSent_18 : decode cX11_isToBeSent 18 = .ok (.invokestatic 104, 3) := by decide +kernel
theorem dX11_isToBeSent_21 : decode cX11_isToBeSent 21 = .ok (.ireturn, 1) := by decide +kernel
theorem dX11_countRight_0 : decode cX11_countRight 0 = .ok (.iconst 0, 1) := by decide +kernel
theorem dX11_countRight_1 : decode cX11_countRight 1 = .ok (.istore 4, 2) := by decide +kernel
theorem dX11_countRight_3 : decode cX11_countRight 3 = .ok (.iload_n 2, 1) := by decide +kernel
theorem dX11_countRight_4 : decode cX11_countRight 4 = .ok (.istore 5, 2) := by decide +kernel
theorem dX11_countRight_6 : decode cX11_countRight 6 = .ok (.iload 5, 2) := by decide +kernel
theorem dX11_countRight_8 : decode cX11_countRight 8 = .ok (.iload_n 3, 1) := by decide +kernel
theorem dX11_countRight_9 : decode cX11_countRight 9 = .ok (.if_icmp .ge 60, 3) := by decide +kernel
theorem dX11_countRight_12 : decode cX11_countRight 12 = .ok (.iload 5, 2) := by decide +kernel
theorem dX11_countRight_14 : decode cX11_countRight 14 = .ok (.aload_n 0, 1) := by decide +kernel
theorem dX11_countRight_15 : decode cX11_countRight 15 = .ok (.getfield 100, 3) := by decide +kernel
theorem dX11_countRight_18 : decode cX11_countRight 18 = .ok (.getfield 238, 3) := by decide +kernel
theorem dX11_countRight_21 : decode cX11_countRight 21 = .ok (.if_icmp .ge 48, 3) := by decide +kernel
theorem dX11_countRight_24 : decode cX11_countRight 24 = .ok (.aload_n 0, 1) := by decide +kernel
theorem dX11_countRight_25 : decode cX11_countRight 25 = .ok (.getfield 30, 3) := by decide +kernel
theorem dX11_countRight_28 : decode cX11_countRight 28 = .ok (.iload_n 1, 1) := by decide +kernel
theorem dX11_countRight_29 : decode cX11_countRight 29 = .ok (.aaload, 1) := by decide +kernel
theorem dX11_countRight_30 : decode cX11_countRight 30 = .ok (.iload 5, 2) := by decide +kernel
theorem dX11_countRight_32 : decode cX11_countRight 32 = .ok (.aload_n 0, 1) := by decide +kernel
theorem dX11_countRight_33 : decode cX11_countRight 33 = .ok (.getfield 18, 3) := by decide +kernel
theorem dX11_countRight_36 : decode cX11_countRight 36 = .ok (.iload_n 1, 1) := by decide +kernel
theorem dX11_countRight_37 : decode cX11_countRight 37 = .ok (.aaload, 1) := by decide +kernel
theorem dX11_countRight_38 : decode cX11_countRight 38 = .ok (.iload 5, 2) := by decide +kernel
theorem dX11_countRight_40 : decode cX11_countRight 40 = .ok (.invokevirtual 270, 3) := by decide +kernel
theorem dX11_countRight_43 : decode cX11_countRight 43 = .ok (.aload_n 0, 1) := by decide +kernel
theorem dX11_countRight_44 : decode cX11_countRight 44 = .ok (.getfield 18, 3) := by decide +kernel
theorem dX11_countRight_47 : decode cX11_countRight 47 = .ok (.iload_n 1, 1) := by decide +kernel
theorem dX11_countRight_48 : decode cX11_countRight 48 = .ok (.aaload, 1) := by decide +kernel
theorem dX11_countRight_49 : decode cX11_countRight 49 = .ok (.iload 5, 2) := by decide +kernel
theorem dX11_countRight_51 : decode cX11_countRight 51 = .ok (.invokevirtual 273, 3) := by decide +kernel
theorem dX11_countRight_54 : decode cX11_countRight 54 = .ok (.invokevirtual 276, 3) := by decide +kernel
theorem dX11_countRight_57 : decode cX11_countRight 57 = .ok (.ifCond .eq 6, 3) := by decide +kernel
theorem dX11_countRight_60 : decode cX11_countRight 60 = .ok (.iinc 4 1, 3) := by decide +kernel
theorem dX11_countRight_63 : decode cX11_countRight 63 = .ok (.iinc 5 1, 3) := by decide +kernel
theorem dX11_countRight_66 : decode cX11_countRight 66 = .ok (.goto (-60), 3) := by decide +kernel
theorem dX11_countRight_69 : decode cX11_countRight 69 = .ok (.iload 4, 2) := by decide +kernel
theorem dX11_countRight_71 : decode cX11_countRight 71 = .ok (.ireturn, 1) := by decide +kernel
theorem dX11_runFrame_0 : decode cX11_runFrame 0 = .ok (.aload_n 0, 1) := by decide +kernel
theorem dX11_runFrame_1 : decode cX11_runFrame 1 = .ok (.getfield 131, 3) := by decide +kernel
theorem dX11_runFrame_4 : decode cX11_runFrame 4 = .ok (.istore_n 1, 1) := by decide +kernel
theorem dX11_runFrame_5 : decode cX11_runFrame 5 = .ok (.aload_n 0, 1) := by decide +kernel
theorem dX11_runFrame_6 : decode cX11_runFrame 6 = .ok (.getfield 18, 3) := by decide +kernel
theorem dX11_runFrame_9 : decode cX11_runFrame 9 = .ok (.astore_n 2, 1) := by decide +kernel
theorem dX11_runFrame_10 : decode cX11_runFrame 10 = .ok (.aload_n 2, 1) := by decide +kernel
theorem dX11_runFrame_11 : decode cX11_runFrame 11 = .ok (.arraylength, 1) := by decide +kernel
theorem dX11_runFrame_12 : decode cX11_runFrame 12 = .ok (.istore_n 3, 1) := by decide +kernel
theorem dX11_runFrame_13 : decode cX11_runFrame 13 = .ok (.iconst 0, 1) := by decide +kernel
theorem dX11_runFrame_14 : decode cX11_runFrame 14 = .ok (.istore 4, 2) := by decide +kernel
theorem dX11_runFrame_16 : decode cX11_runFrame 16 = .ok (.iload 4, 2) := by decide +kernel
theorem dX11_runFrame_18 : decode cX11_runFrame 18 = .ok (.iload_n 3, 1) := by decide +kernel
theorem dX11_runFrame_19 : decode cX11_runFrame 19 = .ok (.if_icmp .ge 21, 3) := by decide +kernel
theorem dX11_runFrame_22 : decode cX11_runFrame 22 = .ok (.aload_n 2, 1) := by decide +kernel
theorem dX11_runFrame_23 : decode cX11_runFrame 23 = .ok (.iload 4, 2) := by decide +kernel
theorem dX11_runFrame_25 : decode cX11_runFrame 25 = .ok (.aaload, 1) := by decide +kernel
theorem dX11_runFrame_26 : decode cX11_runFrame 26 = .ok (.astore 5, 2) := by decide +kernel
theorem dX11_runFrame_28 : decode cX11_runFrame 28 = .ok (.aload 5, 2) := by decide +kernel
theorem dX11_runFrame_30 : decode cX11_runFrame 30 = .ok (.iload_n 1, 1) := by decide +kernel
theorem dX11_runFrame_31 : decode cX11_runFrame 31 = .ok (.invokevirtual 279, 3) := by decide +kernel
theorem dX11_runFrame_34 : decode cX11_runFrame 34 = .ok (.iinc 4 1, 3) := by decide +kernel
theorem dX11_runFrame_37 : decode cX11_runFrame 37 = .ok (.goto (-21), 3) := by decide +kernel
theorem dX11_runFrame_40 : decode cX11_runFrame 40 = .ok (.iload_n 1, 1) := by decide +kernel
theorem dX11_runFrame_41 : decode cX11_runFrame 41 = .ok (.iconst 4, 1) := by decide +kernel
theorem dX11_runFrame_42 : decode cX11_runFrame 42 = .ok (.irem, 1) := by decide +kernel
theorem dX11_runFrame_43 : decode cX11_runFrame 43 = .ok (.ifCond .ne 11, 3) := by decide +kernel
theorem dX11_runFrame_46 : decode cX11_runFrame 46 = .ok (.aload_n 0, 1) := by decide +kernel
theorem dX11_runFrame_47 : decode cX11_runFrame 47 = .ok (.getfield 75, 3) := by decide +kernel
theorem dX11_runFrame_50 : decode cX11_runFrame 50 = .ok (.iload_n 1, 1) := by decide +kernel
theorem dX11_runFrame_51 : decode cX11_runFrame 51 = .ok (.invokevirtual 283, 3) := by decide +kernel
theorem dX11_runFrame_54 : decode cX11_runFrame 54 = .ok (.iconst 0, 1) := by decide +kernel
theorem dX11_runFrame_55 : decode cX11_runFrame 55 = .ok (.istore_n 2, 1) := by decide +kernel
theorem dX11_runFrame_56 : decode cX11_runFrame 56 = .ok (.iload_n 2, 1) := by decide +kernel
theorem dX11_runFrame_57 : decode cX11_runFrame 57 = .ok (.iconst 3, 1) := by decide +kernel
theorem dX11_runFrame_58 : decode cX11_runFrame 58 = .ok (.if_icmp .ge 29, 3) := by decide +kernel
theorem dX11_runFrame_61 : decode cX11_runFrame 61 = .ok (.aload_n 0, 1) := by decide +kernel
theorem dX11_runFrame_62 : decode cX11_runFrame 62 = .ok (.getfield 24, 3) := by decide +kernel
theorem dX11_runFrame_65 : decode cX11_runFrame 65 = .ok (.iload_n 2, 1) := by decide +kernel
theorem dX11_runFrame_66 : decode cX11_runFrame 66 = .ok (.aaload, 1) := by decide +kernel
theorem dX11_runFrame_67 : decode cX11_runFrame 67 = .ok (.iload_n 1, 1) := by decide +kernel
theorem dX11_runFrame_68 : decode cX11_runFrame 68 = .ok (.aload_n 0, 1) := by decide +kernel
theorem dX11_runFrame_69 : decode cX11_runFrame 69 = .ok (.getfield 18, 3) := by decide +kernel
theorem dX11_runFrame_72 : decode cX11_runFrame 72 = .ok (.iload_n 2, 1) := by decide +kernel
theorem dX11_runFrame_73 : decode cX11_runFrame 73 = .ok (.aaload, 1) := by decide +kernel
theorem dX11_runFrame_74 : decode cX11_runFrame 74 = .ok (.aload_n 0, 1) := by decide +kernel
theorem dX11_runFrame_75 : decode cX11_runFrame 75 = .ok (.getfield 10, 3) := by decide +kernel
theorem dX11_runFrame_78 : decode cX11_runFrame 78 = .ok (.invokevirtual 286, 3) := by decide +kernel
theorem dX11_runFrame_81 : decode cX11_runFrame 81 = .ok (.iinc 2 1, 3) := by decide +kernel
theorem dX11_runFrame_84 : decode cX11_runFrame 84 = .ok (.goto (-28), 3) := by decide +kernel
theorem dX11_runFrame_87 : decode cX11_runFrame 87 = .ok (.aload_n 0, 1) := by decide +kernel
theorem dX11_runFrame_88 : decode cX11_runFrame 88 = .ok (.getfield 24, 3) := by decide +kernel
theorem dX11_runFrame_91 : decode cX11_runFrame 91 = .ok (.aload_n 0, 1) := by decide +kernel
theorem dX11_runFrame_92 : decode cX11_runFrame 92 = .ok (.getfield 41, 3) := by decide +kernel
theorem dX11_runFrame_95 : decode cX11_runFrame 95 = .ok (.invokestatic 289, 3) := by decide +kernel
theorem dX11_runFrame_98 : decode cX11_runFrame 98 = .ok (.iconst 0, 1) := by decide +kernel
theorem dX11_runFrame_99 : decode cX11_runFrame 99 = .ok (.istore_n 2, 1) := by decide +kernel
theorem dX11_runFrame_100 : decode cX11_runFrame 100 = .ok (.iload_n 2, 1) := by decide +kernel
theorem dX11_runFrame_101 : decode cX11_runFrame 101 = .ok (.iconst 3, 1) := by decide +kernel
theorem dX11_runFrame_102 : decode cX11_runFrame 102 = .ok (.if_icmp .ge 25, 3) := by decide +kernel
theorem dX11_runFrame_105 : decode cX11_runFrame 105 = .ok (.aload_n 0, 1) := by decide +kernel
theorem dX11_runFrame_106 : decode cX11_runFrame 106 = .ok (.getfield 24, 3) := by decide +kernel
theorem dX11_runFrame_109 : decode cX11_runFrame 109 = .ok (.iload_n 2, 1) := by decide +kernel
theorem dX11_runFrame_110 : decode cX11_runFrame 110 = .ok (.aaload, 1) := by decide +kernel
theorem dX11_runFrame_111 : decode cX11_runFrame 111 = .ok (.iload_n 1, 1) := by decide +kernel
theorem dX11_runFrame_112 : decode cX11_runFrame 112 = .ok (.aload_n 0, 1) := by decide +kernel
theorem dX11_runFrame_113 : decode cX11_runFrame 113 = .ok (.getfield 18, 3) := by decide +kernel
theorem dX11_runFrame_116 : decode cX11_runFrame 116 = .ok (.iload_n 2, 1) := by decide +kernel
theorem dX11_runFrame_117 : decode cX11_runFrame 117 = .ok (.aaload, 1) := by decide +kernel
theorem dX11_runFrame_118 : decode cX11_runFrame 118 = .ok (.invokevirtual 293, 3) := by decide +kernel
theorem dX11_runFrame_121 : decode cX11_runFrame 121 = .ok (.iinc 2 1, 3) := by decide +kernel
theorem dX11_runFrame_124 : decode cX11_runFrame 124 = .ok (.goto (-24), 3) := by decide +kernel
theorem dX11_runFrame_127 : decode cX11_runFrame 127 = .ok (.iconst 0, 1) := by decide +kernel
theorem dX11_runFrame_128 : decode cX11_runFrame 128 = .ok (.istore_n 2, 1) := by decide +kernel
theorem dX11_runFrame_129 : decode cX11_runFrame 129 = .ok (.iload_n 2, 1) := by decide +kernel
theorem dX11_runFrame_130 : decode cX11_runFrame 130 = .ok (.aload_n 0, 1) := by decide +kernel
theorem dX11_runFrame_131 : decode cX11_runFrame 131 = .ok (.getfield 54, 3) := by decide +kernel
theorem dX11_runFrame_134 : decode cX11_runFrame 134 = .ok (.if_icmp .ge 48, 3) := by decide +kernel
theorem dX11_runFrame_137 : decode cX11_runFrame 137 = .ok (.aload_n 0, 1) := by decide +kernel
theorem dX11_runFrame_138 : decode cX11_runFrame 138 = .ok (.getfield 75, 3) := by decide +kernel
theorem dX11_runFrame_141 : decode cX11_runFrame 141 = .ok (.iload_n 1, 1) := by decide +kernel
theorem dX11_runFrame_142 : decode cX11_runFrame 142 = .ok (.iload_n 2, 1) := by decide +kernel
theorem dX11_runFrame_143 : decode cX11_runFrame 143 = .ok (.invokevirtual 297, 3) := by decide +kernel
theorem dX11_runFrame_146 : decode cX11_runFrame 146 = .ok (.aload_n 0, 1) := by decide +kernel
theorem dX11_runFrame_147 : decode cX11_runFrame 147 = .ok (.getfield 88, 3) := by decide +kernel
theorem dX11_runFrame_150 : decode cX11_runFrame 150 = .ok (.aload_n 0, 1) := by decide +kernel
theorem dX11_runFrame_151 : decode cX11_runFrame 151 = .ok (.getfield 75, 3) := by decide +kernel
theorem dX11_runFrame_154 : decode cX11_runFrame 154 = .ok (.getfield 234, 3) := by decide +kernel
theorem dX11_runFrame_157 : decode cX11_runFrame 157 = .ok (.iconst 1, 1) := by decide +kernel
theorem dX11_runFrame_158 : decode cX11_runFrame 158 = .ok (.isub, 1) := by decide +kernel
theorem dX11_runFrame_159 : decode cX11_runFrame 159 = .ok (.invokevirtual 300, 3) := by decide +kernel
theorem dX11_runFrame_162 : decode cX11_runFrame 162 = .ok (.aload_n 0, 1) := by decide +kernel
theorem dX11_runFrame_163 : decode cX11_runFrame 163 = .ok (.getfield 88, 3) := by decide +kernel
theorem dX11_runFrame_166 : decode cX11_runFrame 166 = .ok (.invokevirtual 303, 3) := by decide +kernel
theorem dX11_runFrame_169 : decode cX11_runFrame 169 = .ok (.ifCond .eq 7, 3) := by decide +kernel
theorem dX11_runFrame_172 : decode cX11_runFrame 172 = .ok (.aload_n 0, 1) := by decide +kernel
theorem dX11_runFrame_173 : decode cX11_runFrame 173 = .ok (.invokevirtual 307, 3) := by decide +kernel
theorem dX11_runFrame_176 : decode cX11_runFrame 176 = .ok (.iinc 2 1, 3) := by decide +kernel
theorem dX11_runFrame_179 : decode cX11_runFrame 179 = .ok (.goto (-50), 3) := by decide +kernel
theorem dX11_runFrame_182 : decode cX11_runFrame 182 = .ok (.aload_n 0, 1) := by decide +kernel
theorem dX11_runFrame_183 : decode cX11_runFrame 183 = .ok (.iload_n 1, 1) := by decide +kernel
theorem dX11_runFrame_184 : decode cX11_runFrame 184 = .ok (.iconst 1, 1) := by decide +kernel
theorem dX11_runFrame_185 : decode cX11_runFrame 185 = .ok (.iadd, 1) := by decide +kernel
theorem dX11_runFrame_186 : decode cX11_runFrame 186 = .ok (.putfield 131, 3) := by decide +kernel
theorem dX11_runFrame_189 : decode cX11_runFrame 189 = .ok (.return_, 1) := by decide +kernel
theorem dX11_finishBlock_0 : decode cX11_finishBlock 0 = .ok (.aload_n 0, 1) := by decide +kernel
theorem dX11_finishBlock_1 : decode cX11_finishBlock 1 = .ok (.getfield 88, 3) := by decide +kernel
theorem dX11_finishBlock_4 : decode cX11_finishBlock 4 = .ok (.invokevirtual 310, 3) := by decide +kernel
theorem dX11_finishBlock_7 : decode cX11_finishBlock 7 = .ok (.iconst 0, 1) := by decide +kernel
theorem dX11_finishBlock_8 : decode cX11_finishBlock 8 = .ok (.istore_n 1, 1) := by decide +kernel
theorem dX11_finishBlock_9 : decode cX11_finishBlock 9 = .ok (.iload_n 1, 1) := by decide +kernel
theorem dX11_finishBlock_10 : decode cX11_finishBlock 10 = .ok (.aload_n 0, 1) := by decide +kernel
theorem dX11_finishBlock_11 : decode cX11_finishBlock 11 = .ok (.getfield 88, 3) := by decide +kernel
theorem dX11_finishBlock_14 : decode cX11_finishBlock 14 = .ok (.getfield 313, 3) := by decide +kernel
theorem dX11_finishBlock_17 : decode cX11_finishBlock 17 = .ok (.if_icmp .ge 42, 3) := by decide +kernel
theorem dX11_finishBlock_20 : decode cX11_finishBlock 20 = .ok (.aload_n 0, 1) := by decide +kernel
theorem dX11_finishBlock_21 : decode cX11_finishBlock 21 = .ok (.getfield 88, 3) := by decide +kernel
theorem dX11_finishBlock_24 : decode cX11_finishBlock 24 = .ok (.getfield 314, 3) := by decide +kernel
theorem dX11_finishBlock_27 : decode cX11_finishBlock 27 = .ok (.iload_n 1, 1) := by decide +kernel
theorem dX11_finishBlock_28 : decode cX11_finishBlock 28 = .ok (.baload, 1) := by decide +kernel
theorem dX11_finishBlock_29 : decode cX11_finishBlock 29 = .ok (.ifCond .eq 24, 3) := by decide +kernel
theorem dX11_finishBlock_32 : decode cX11_finishBlock 32 = .ok (.aload_n 0, 1) := by decide +kernel
theorem dX11_finishBlock_33 : decode cX11_finishBlock 33 = .ok (.getfield 100, 3) := by decide +kernel
theorem dX11_finishBlock_36 : decode cX11_finishBlock 36 = .ok (.aload_n 0, 1) := by decide +kernel
theorem dX11_finishBlock_37 : decode cX11_finishBlock 37 = .ok (.getfield 88, 3) := by decide +kernel
theorem dX11_finishBlock_40 : decode cX11_finishBlock 40 = .ok (.getfield 318, 3) := by decide +kernel
theorem dX11_finishBlock_43 : decode cX11_finishBlock 43 = .ok (.iload_n 1, 1) := by decide +kernel
theorem dX11_finishBlock_44 : decode cX11_finishBlock 44 = .ok (.iadd, 1) := by decide +kernel
theorem dX11_finishBlock_45 : decode cX11_finishBlock 45 = .ok (.iload_n 1, 1) := by decide +kernel
theorem dX11_finishBlock_46 : decode cX11_finishBlock 46 = .ok (.sipush 188, 3) := by decide +kernel
theorem dX11_finishBlock_49 : decode cX11_finishBlock 49 = .ok (.imul, 1) := by decide +kernel
theorem dX11_finishBlock_50 : decode cX11_finishBlock 50 = .ok (.invokevirtual 321, 3) := by decide +kernel
theorem dX11_finishBlock_53 : decode cX11_finishBlock 53 = .ok (.iinc 1 1, 3) := by decide +kernel
theorem dX11_finishBlock_56 : decode cX11_finishBlock 56 = .ok (.goto (-47), 3) := by decide +kernel
theorem dX11_finishBlock_59 : decode cX11_finishBlock 59 = .ok (.aload_n 0, 1) := by decide +kernel
theorem dX11_finishBlock_60 : decode cX11_finishBlock 60 = .ok (.getfield 88, 3) := by decide +kernel
theorem dX11_finishBlock_63 : decode cX11_finishBlock 63 = .ok (.invokevirtual 324, 3) := by decide +kernel
theorem dX11_finishBlock_66 : decode cX11_finishBlock 66 = .ok (.sipush 3000, 3) := by decide +kernel
theorem dX11_finishBlock_69 : decode cX11_finishBlock 69 = .ok (.aload_n 0, 1) := by decide +kernel
theorem dX11_finishBlock_70 : decode cX11_finishBlock 70 = .ok (.getfield 88, 3) := by decide +kernel
theorem dX11_finishBlock_73 : decode cX11_finishBlock 73 = .ok (.getfield 318, 3) := by decide +kernel
theorem dX11_finishBlock_76 : decode cX11_finishBlock 76 = .ok (.aload_n 0, 1) := by decide +kernel
theorem dX11_finishBlock_77 : decode cX11_finishBlock 77 = .ok (.getfield 54, 3) := by decide +kernel
theorem dX11_finishBlock_80 : decode cX11_finishBlock 80 = .ok (.idiv, 1) := by decide +kernel
theorem dX11_finishBlock_81 : decode cX11_finishBlock 81 = .ok (.bipush 8, 2) := by decide +kernel
theorem dX11_finishBlock_83 : decode cX11_finishBlock 83 = .ok (.isub, 1) := by decide +kernel
theorem dX11_finishBlock_84 : decode cX11_finishBlock 84 = .ok (.iconst 1, 1) := by decide +kernel
theorem dX11_finishBlock_85 : decode cX11_finishBlock 85 = .ok (.iadd, 1) := by decide +kernel
theorem dX11_finishBlock_86 : decode cX11_finishBlock 86 = .ok (.invokestatic 45, 3) := by decide +kernel
theorem dX11_finishBlock_89 : decode cX11_finishBlock 89 = .ok (.istore_n 1, 1) := by decide +kernel
theorem dX11_finishBlock_90 : decode cX11_finishBlock 90 = .ok (.aload_n 0, 1) := by decide +kernel
theorem dX11_finishBlock_91 : decode cX11_finishBlock 91 = .ok (.getfield 100, 3) := by decide +kernel
theorem dX11_finishBlock_94 : decode cX11_finishBlock 94 = .ok (.getfield 238, 3) := by decide +kernel
theorem dX11_finishBlock_97 : decode cX11_finishBlock 97 = .ok (.istore_n 2, 1) := by decide +kernel
theorem dX11_finishBlock_98 : decode cX11_finishBlock 98 = .ok (.iload_n 2, 1) := by decide +kernel
theorem dX11_finishBlock_99 : decode cX11_finishBlock 99 = .ok (.iload_n 1, 1) := by decide +kernel
theorem dX11_finishBlock_100 : decode cX11_finishBlock 100 = .ok (.if_icmp .ge 70, 3) := by decide +kernel
theorem dX11_finishBlock_103 : decode cX11_finishBlock 103 = .ok (.aload_n 0, 1) := by decide +kernel
theorem dX11_finishBlock_104 : decode cX11_finishBlock 104 = .ok (.getfield 30, 3) := by decide +kernel
theorem dX11_finishBlock_107 : decode cX11_finishBlock 107 = .ok (.astore_n 3, 1) := by decide +kernel
theorem dX11_finishBlock_108 : decode cX11_finishBlock 108 = .ok (.aload_n 3, 1) := by decide +kernel
theorem dX11_finishBlock_109 : decode cX11_finishBlock 109 = .ok (.arraylength, 1) := by decide +kernel
theorem dX11_finishBlock_110 : decode cX11_finishBlock 110 = .ok (.istore 4, 2) := by decide +kernel
theorem dX11_finishBlock_112 : decode cX11_finishBlock 112 = .ok (.iconst 0, 1) := by decide +kernel
theorem dX11_finishBlock_113 : decode cX11_finishBlock 113 = .ok (.istore 5, 2) := by decide +kernel
theorem dX11_finishBlock_115 : decode cX11_finishBlock 115 = .ok (.iload 5, 2) := by decide +kernel
theorem dX11_finishBlock_117 : decode cX11_finishBlock 117 = .ok (.iload 4, 2) := by decide +kernel
theorem dX11_finishBlock_119 : decode cX11_finishBlock 119 = .ok (.if_icmp .ge 21, 3) := by decide +kernel
theorem dX11_finishBlock_122 : decode cX11_finishBlock 122 = .ok (.aload_n 3, 1) := by decide +kernel
theorem dX11_finishBlock_123 : decode cX11_finishBlock 123 = .ok (.iload 5, 2) := by decide +kernel
theorem dX11_finishBlock_125 : decode cX11_finishBlock 125 = .ok (.aaload, 1) := by decide +kernel
theorem dX11_finishBlock_126 : decode cX11_finishBlock 126 = .ok (.astore 6, 2) := by decide +kernel
theorem dX11_finishBlock_128 : decode cX11_finishBlock 128 = .ok (.aload 6, 2) := by decide +kernel
theorem dX11_finishBlock_130 : decode cX11_finishBlock 130 = .ok (.iload_n 2, 1) := by decide +kernel
theorem dX11_finishBlock_131 : decode cX11_finishBlock 131 = .ok (.invokevirtual 327, 3) := by decide +kernel
theorem dX11_finishBlock_134 : decode cX11_finishBlock 134 = .ok (.iinc 5 1, 3) := by decide +kernel
theorem dX11_finishBlock_137 : decode cX11_finishBlock 137 = .ok (.goto (-22), 3) := by decide +kernel
theorem dX11_finishBlock_140 : decode cX11_finishBlock 140 = .ok (.aload_n 0, 1) := by decide +kernel
theorem dX11_finishBlock_141 : decode cX11_finishBlock 141 = .ok (.getfield 37, 3) := by decide +kernel
theorem dX11_finishBlock_144 : decode cX11_finishBlock 144 = .ok (.iload_n 2, 1) := by decide +kernel
theorem dX11_finishBlock_145 : decode cX11_finishBlock 145 = .ok (.aload_n 0, 1) := by decide +kernel
theorem dX11_finishBlock_146 : decode cX11_finishBlock 146 = .ok (.getfield 30, 3) := by decide +kernel
theorem dX11_finishBlock_149 : decode cX11_finishBlock 149 = .ok (.iconst 0, 1) := by decide +kernel
theorem dX11_finishBlock_150 : decode cX11_finishBlock 150 = .ok (.aaload, 1) := by decide +kernel
theorem dX11_finishBlock_151 : decode cX11_finishBlock 151 = .ok (.invokevirtual 330, 3) := by decide +kernel
theorem dX11_finishBlock_154 : decode cX11_finishBlock 154 = .ok (.aload_n 0, 1) := by decide +kernel
theorem dX11_finishBlock_155 : decode cX11_finishBlock 155 = .ok (.getfield 100, 3) := by decide +kernel
theorem dX11_finishBlock_158 : decode cX11_finishBlock 158 = .ok (.iload_n 2, 1) := by decide +kernel
theorem dX11_finishBlock_159 : decode cX11_finishBlock 159 = .ok (.iconst 1, 1) := by decide +kernel
theorem dX11_finishBlock_160 : decode cX11_finishBlock 160 = .ok (.iadd, 1) := by decide +kernel
theorem dX11_finishBlock_161 : decode cX11_finishBlock 161 = .ok (.putfield 238, 3) := by decide +kernel
theorem dX11_finishBlock_164 : decode cX11_finishBlock 164 = .ok (.iinc 2 1, 3) := by decide +kernel
theorem dX11_finishBlock_167 : decode cX11_finishBlock 167 = .ok (.goto (-69), 3) := by decide +kernel
theorem dX11_finishBlock_170 : decode cX11_finishBlock 170 = .ok (.return_, 1) := by decide +kernel
theorem dX11_clockBits_0 : decode cX11_clockBits 0 = .ok (.ldc2_w 333, 3) := by decide +kernel
theorem dX11_clockBits_3 : decode cX11_clockBits 3 = .ok (.lload_n 2, 1) := by decide +kernel
theorem dX11_clockBits_4 : decode cX11_clockBits 4 = .ok (.lmul, 1) := by decide +kernel
theorem dX11_clockBits_5 : decode cX11_clockBits 5 = .ok (.ldc2_w 335, 3) := by decide +kernel
theorem dX11_clockBits_8 : decode cX11_clockBits 8 = .ok (.iload_n 0, 1) := by decide +kernel
theorem dX11_clockBits_9 : decode cX11_clockBits 9 = .ok (.i2l, 1) := by decide +kernel
theorem dX11_clockBits_10 : decode cX11_clockBits 10 = .ok (.lmul, 1) := by decide +kernel
theorem dX11_clockBits_11 : decode cX11_clockBits 11 = .ok (.iconst 1, 1) := by decide +kernel
theorem dX11_clockBits_12 : decode cX11_clockBits 12 = .ok (.iload_n 1, 1) := by decide +kernel
theorem dX11_clockBits_13 : decode cX11_clockBits 13 = .ok (.invokestatic 51, 3) := by decide +kernel
theorem dX11_clockBits_16 : decode cX11_clockBits 16 = .ok (.i2l, 1) := by decide +kernel
theorem dX11_clockBits_17 : decode cX11_clockBits 17 = .ok (.ldiv, 1) := by decide +kernel
theorem dX11_clockBits_18 : decode cX11_clockBits 18 = .ok (.ladd, 1) := by decide +kernel
theorem dX11_clockBits_19 : decode cX11_clockBits 19 = .ok (.ldc2_w 337, 3) := by decide +kernel
theorem dX11_clockBits_22 : decode cX11_clockBits 22 = .ok (.lrem, 1) := by decide +kernel
theorem dX11_clockBits_23 : decode cX11_clockBits 23 = .ok (.lstore 4, 2) := by decide +kernel
theorem dX11_clockBits_25 : decode cX11_clockBits 25 = .ok (.lload 4, 2) := by decide +kernel
theorem dX11_clockBits_27 : decode cX11_clockBits 27 = .ok (.ldc2_w 333, 3) := by decide +kernel
theorem dX11_clockBits_30 : decode cX11_clockBits 30 = .ok (.ldiv, 1) := by decide +kernel
theorem dX11_clockBits_31 : decode cX11_clockBits 31 = .ok (.bipush 15, 2) := by decide +kernel
theorem dX11_clockBits_33 : decode cX11_clockBits 33 = .ok (.lshl, 1) := by decide +kernel
theorem dX11_clockBits_34 : decode cX11_clockBits 34 = .ok (.ldc2_w 339, 3) := by decide +kernel
theorem dX11_clockBits_37 : decode cX11_clockBits 37 = .ok (.lor, 1) := by decide +kernel
theorem dX11_clockBits_38 : decode cX11_clockBits 38 = .ok (.lload 4, 2) := by decide +kernel
theorem dX11_clockBits_40 : decode cX11_clockBits 40 = .ok (.ldc2_w 333, 3) := by decide +kernel
theorem dX11_clockBits_43 : decode cX11_clockBits 43 = .ok (.lrem, 1) := by decide +kernel
theorem dX11_clockBits_44 : decode cX11_clockBits 44 = .ok (.lor, 1) := by decide +kernel
theorem dX11_clockBits_45 : decode cX11_clockBits 45 = .ok (.lreturn, 1) := by decide +kernel
theorem dX12_init_0 : decode cX12_init 0 = .ok (.aload_n 0, 1) := by decide +kernel
theorem dX12_init_1 : decode cX12_init 1 = .ok (.invokespecial 1, 3) := by decide +kernel
theorem dX12_init_4 : decode cX12_init 4 = .ok (.aload_n 0, 1) := by decide +kernel
theorem dX12_init_5 : decode cX12_init 5 = .ok (.bipush 16, 2) := by decide +kernel
theorem dX12_init_7 : decode cX12_init 7 = .ok (.newarray .int, 2) := by decide +kernel
theorem dX12_init_9 : decode cX12_init 9 = .ok (.putfield 7, 3) := by decide +kernel
theorem dX12_init_12 : decode cX12_init 12 = .ok (.aload_n 0, 1) := by decide +kernel
theorem dX12_init_13 : decode cX12_init 13 = .ok (.bipush 16, 2) := by decide +kernel
theorem dX12_init_15 : decode cX12_init 15 = .ok (.newarray .int, 2) := by decide +kernel
theorem dX12_init_17 : decode cX12_init 17 = .ok (.putfield 13, 3) := by decide +kernel
theorem dX12_init_20 : decode cX12_init 20 = .ok (.aload_n 0, 1) := by decide +kernel
theorem dX12_init_21 : decode cX12_init 21 = .ok (.bipush 6, 2) := by decide +kernel
theorem dX12_init_23 : decode cX12_init 23 = .ok (.newarray .int, 2) := by decide +kernel
theorem dX12_init_25 : decode cX12_init 25 = .ok (.putfield 16, 3) := by decide +kernel
theorem dX12_init_28 : decode cX12_init 28 = .ok (.aload_n 0, 1) := by decide +kernel
theorem dX12_init_29 : decode cX12_init 29 = .ok (.bipush 6, 2) := by decide +kernel
theorem dX12_init_31 : decode cX12_init 31 = .ok (.newarray .int, 2) := by decide +kernel
theorem dX12_init_33 : decode cX12_init 33 = .ok (.putfield 19, 3) := by decide +kernel
theorem dX12_init_36 : decode cX12_init 36 = .ok (.aload_n 0, 1) := by decide +kernel
theorem dX12_init_37 : decode cX12_init 37 = .ok (.bipush 6, 2) := by decide +kernel
theorem dX12_init_39 : decode cX12_init 39 = .ok (.newarray .int, 2) := by decide +kernel
theorem dX12_init_41 : decode cX12_init 41 = .ok (.putfield 22, 3) := by decide +kernel
theorem dX12_init_44 : decode cX12_init 44 = .ok (.aload_n 0, 1) := by decide +kernel
theorem dX12_init_45 : decode cX12_init 45 = .ok (.ldc 25, 2) := by decide +kernel
theorem dX12_init_47 : decode cX12_init 47 = .ok (.newarray .boolean, 2) := by decide +kernel
theorem dX12_init_49 : decode cX12_init 49 = .ok (.putfield 26, 3) := by decide +kernel
theorem dX12_init_52 : decode cX12_init 52 = .ok (.aload_n 0, 1) := by decide +kernel
theorem dX12_init_53 : decode cX12_init 53 = .ok (.ldc 30, 2) := by decide +kernel
theorem dX12_init_55 : decode cX12_init 55 = .ok (.newarray .boolean, 2) := by decide +kernel
theorem dX12_init_57 : decode cX12_init 57 = .ok (.putfield 31, 3) := by decide +kernel
theorem dX12_init_60 : decode cX12_init 60 = .ok (.aload_n 0, 1) := by decide +kernel
theorem dX12_init_61 : decode cX12_init 61 = .ok (.iconst 3, 1) := by decide +kernel
theorem dX12_init_62 : decode cX12_init 62 = .ok (.newarray .int, 2) := by decide +kernel
theorem dX12_init_64 : decode cX12_init 64 = .ok (.putfield 34, 3) := by decide +kernel
theorem dX12_init_67 : decode cX12_init 67 = .ok (.aload_n 0, 1) := by decide +kernel
theorem dX12_init_68 : decode cX12_init 68 = .ok (.sipush 180, 3) := by decide +kernel
theorem dX12_init_71 : decode cX12_init 71 = .ok (.newarray .int, 2) := by decide +kernel
theorem dX12_init_73 : decode cX12_init 73 = .ok (.putfield 37, 3) := by decide +kernel
theorem dX12_init_76 : decode cX12_init 76 = .ok (.aload_n 0, 1) := by decide +kernel
theorem dX12_init_77 : decode cX12_init 77 = .ok (.sipush 180, 3) := by decide +kernel
theorem dX12_init_80 : decode cX12_init 80 = .ok (.newarray .int, 2) := by decide +kernel
theorem dX12_init_82 : decode cX12_init 82 = .ok (.putfield 40, 3) := by decide +kernel
theorem dX12_init_85 : decode cX12_init 85 = .ok (.aload_n 0, 1) := by decide +kernel
theorem dX12_init_86 : decode cX12_init 86 = .ok (.sipush 180, 3) := by decide +kernel
theorem dX12_init_89 : decode cX12_init 89 = .ok (.newarray .int, 2) := by decide +kernel
theorem dX12_init_91 : decode cX12_init 91 = .ok (.putfield 43, 3) := by decide +kernel
theorem dX12_init_94 : decode cX12_init 94 = .ok (.aload_n 0, 1) := by decide +kernel
theorem dX12_init_95 : decode cX12_init 95 = .ok (.sipush 180, 3) := by decide +kernel
theorem dX12_init_98 : decode cX12_init 98 = .ok (.newarray .int, 2) := by decide +kernel
theorem dX12_init_100 : decode cX12_init 100 = .ok (.putfield 46, 3) := by decide +kernel
theorem dX12_init_103 : decode cX12_init 103 = .ok (.aload_n 0, 1) := by decide +kernel
theorem dX12_init_104 : decode cX12_init 104 = .ok (.sipush 180, 3) := by decide +kernel
theorem dX12_init_107 : decode cX12_init 107 = .ok (.newarray .int, 2) := by decide +kernel
theorem dX12_init_109 : decode cX12_init 109 = .ok (.putfield 49, 3) := by decide +kernel
theorem dX12_init_112 : decode cX12_init 112 = .ok (.aload_n 0, 1) := by decide +kernel
theorem dX12_init_113 : decode cX12_init 113 = .ok (.sipush 180, 3) := by decide +kernel
theorem dX12_init_116 : decode cX12_init 116 = .ok (.newarray .int, 2) := by decide +kernel
theorem dX12_init_118 : decode cX12_init 118 = .ok (.putfield 52, 3) := by decide +kernel
theorem dX12_init_121 : decode cX12_init 121 = .ok (.aload_n 0, 1) := by decide +kernel
theorem dX12_init_122 : decode cX12_init 122 = .ok (.sipush 180, 3) := by decide +kernel
theorem dX12_init_125 : decode cX12_init 125 = .ok (.newarray .int, 2) := by decide +kernel
theorem dX12_init_127 : decode cX12_init 127 = .ok (.putfield 55, 3) := by decide +kernel
theorem dX12_init_130 : decode cX12_init 130 = .ok (.aload_n 0, 1) := by decide +kernel
theorem dX12_init_131 : decode cX12_init 131 = .ok (.iconst 3, 1) := by decide +kernel
theorem dX12_init_132 : decode cX12_init 132 = .ok (.newarray .int, 2) := by decide +kernel
theorem dX12_init_134 : decode cX12_init 134 = .ok (.putfield 58, 3) := by decide +kernel
theorem dX12_init_137 : decode cX12_init 137 = .ok (.aload_n 0, 1) := by decide +kernel
theorem dX12_init_138 : decode cX12_init 138 = .ok (.iconst 3, 1) := by decide +kernel
theorem dX12_init_139 : decode cX12_init 139 = .ok (.newarray .boolean, 2) := by decide +kernel
theorem dX12_init_141 : decode cX12_init 141 = .ok (.putfield 61, 3) := by decide +kernel
theorem dX12_init_144 : decode cX12_init 144 = .ok (.aload_n 0, 1) := by decide +kernel
theorem dX12_init_145 : decode cX12_init 145 = .ok (.iconst 3, 1) := by decide +kernel
theorem dX12_init_146 : decode cX12_init 146 = .ok (.newarray .boolean, 2) := by decide +kernel
theorem dX12_init_148 : decode cX12_init 148 = .ok (.putfield 64, 3) := by decide +kernel
theorem dX12_init_151 : decode cX12_init 151 = .ok (.aload_n 0, 1) := by decide +kernel
theorem dX12_init_152 : decode cX12_init 152 = .ok (.iconst 3, 1) := by decide +kernel
theorem dX12_init_153 : decode cX12_init 153 = .ok (.newarray .int, 2) := by decide +kernel
theorem dX12_init_155 : decode cX12_init 155 = .ok (.putfield 67, 3) := by decide +kernel
theorem dX12_init_158 : decode cX12_init 158 = .ok (.aload_n 0, 1) := by decide +kernel
theorem dX12_init_159 : decode cX12_init 159 = .ok (.bipush 6, 2) := by decide +kernel
theorem dX12_init_161 : decode cX12_init 161 = .ok (.newarray .int, 2) := by decide +kernel
theorem dX12_init_163 : decode cX12_init 163 = .ok (.putfield 70, 3) := by decide +kernel
theorem dX12_init_166 : decode cX12_init 166 = .ok (.aload_n 0, 1) := by decide +kernel
theorem dX12_init_167 : decode cX12_init 167 = .ok (.bipush 6, 2) := by decide +kernel
theorem dX12_init_169 : decode cX12_init 169 = .ok (.newarray .int, 2) := by decide +kernel
theorem dX12_init_171 : decode cX12_init 171 = .ok (.putfield 73, 3) := by decide +kernel
theorem dX12_init_174 : decode cX12_init 174 = .ok (.aload_n 0, 1) := by decide +kernel
theorem dX12_init_175 : decode cX12_init 175 = .ok (.iconst 3, 1) := by decide +kernel
theorem dX12_init_176 : decode cX12_init 176 = .ok (.newarray .int, 2) := by decide +kernel
theorem dX12_init_178 : decode cX12_init 178 = .ok (.putfield 76, 3) := by decide +kernel
theorem dX12_init_181 : decode cX12_init 181 = .ok (.aload_n 0, 1) := by decide +kernel
theorem dX12_init_182 : decode cX12_init 182 = .ok (.iconst 3, 1) := by decide +kernel
theorem dX12_init_183 : decode cX12_init 183 = .ok (.newarray .int, 2) := by decide +kernel
theorem dX12_init_185 : decode cX12_init 185 = .ok (.putfield 79, 3) := by decide +kernel
theorem dX12_init_188 : decode cX12_init 188 = .ok (.aload_n 0, 1) := by decide +kernel
theorem dX12_init_189 : decode cX12_init 189 = .ok (.sipush 9000, 3) := by decide +kernel
theorem dX12_init_192 : decode cX12_init 192 = .ok (.newarray .int, 2) := by decide +kernel
theorem dX12_init_194 : decode cX12_init 194 = .ok (.putfield 82, 3) := by decide +kernel
theorem dX12_init_197 : decode cX12_init 197 = .ok (.aload_n 0, 1) := by decide +kernel
theorem dX12_init_198 : decode cX12_init 198 = .ok (.sipush 9000, 3) := by decide +kernel
theorem dX12_init_201 : decode cX12_init 201 = .ok (.newarray .int, 2) := by decide +kernel
theorem dX12_init_203 : decode cX12_init 203 = .ok (.putfield 85, 3) := by decide +kernel
theorem dX12_init_206 : decode cX12_init 206 = .ok (.aload_n 0, 1) := by decide +kernel
theorem dX12_init_207 : decode cX12_init 207 = .ok (.sipush 9000, 3) := by decide +kernel
theorem dX12_init_210 : decode cX12_init 210 = .ok (.newarray .int, 2) := by decide +kernel
theorem dX12_init_212 : decode cX12_init 212 = .ok (.putfield 88, 3) := by decide +kernel
theorem dX12_init_215 : decode cX12_init 215 = .ok (.aload_n 0, 1) := by decide +kernel
theorem dX12_init_216 : decode cX12_init 216 = .ok (.sipush 9000, 3) := by decide +kernel
theorem dX12_init_219 : decode cX12_init 219 = .ok (.newarray .int, 2) := by decide +kernel
theorem dX12_init_221 : decode cX12_init 221 = .ok (.putfield 91, 3) := by decide +kernel
theorem dX12_init_224 : decode cX12_init 224 = .ok (.aload_n 0, 1) := by decide +kernel
theorem dX12_init_225 : decode cX12_init 225 = .ok (.sipush 9000, 3) := by decide +kernel
theorem dX12_init_228 : decode cX12_init 228 = .ok (.newarray .int, 2) := by decide +kernel
theorem dX12_init_230 : decode cX12_init 230 = .ok (.putfield 94, 3) := by decide +kernel
theorem dX12_init_233 : decode cX12_init 233 = .ok (.aload_n 0, 1) := by decide +kernel
theorem dX12_init_234 : decode cX12_init 234 = .ok (.sipush 9000, 3) := by decide +kernel
theorem dX12_init_237 : decode cX12_init 237 = .ok (.newarray .int, 2) := by decide +kernel
theorem dX12_init_239 : decode cX12_init 239 = .ok (.putfield 97, 3) := by decide +kernel
theorem dX12_init_242 : decode cX12_init 242 = .ok (.aload_n 0, 1) := by decide +kernel
theorem dX12_init_243 : decode cX12_init 243 = .ok (.iconst 3, 1) := by decide +kernel
theorem dX12_init_244 : decode cX12_init 244 = .ok (.newarray .int, 2) := by decide +kernel
theorem dX12_init_246 : decode cX12_init 246 = .ok (.putfield 100, 3) := by decide +kernel
theorem dX12_init_249 : decode cX12_init 249 = .ok (.aload_n 0, 1) := by decide +kernel
theorem dX12_init_250 : decode cX12_init 250 = .ok (.sipush 9000, 3) := by decide +kernel
theorem dX12_init_253 : decode cX12_init 253 = .ok (.newarray .int, 2) := by decide +kernel
theorem dX12_init_255 : decode cX12_init 255 = .ok (.putfield 103, 3) := by decide +kernel
theorem dX12_init_258 : decode cX12_init 258 = .ok (.aload_n 0, 1) := by decide +kernel
theorem dX12_init_259 : decode cX12_init 259 = .ok (.iconst 3, 1) := by decide +kernel
theorem dX12_init_260 : decode cX12_init 260 = .ok (.newarray .int, 2) := by decide +kernel
theorem dX12_init_262 : decode cX12_init 262 = .ok (.putfield 106, 3) := by decide +kernel
theorem dX12_init_265 : decode cX12_init 265 = .ok (.aload_n 0, 1) := by decide +kernel
theorem dX12_init_266 : decode cX12_init 266 = .ok (.iconst 3, 1) := by decide +kernel
theorem dX12_init_267 : decode cX12_init 267 = .ok (.newarray .int, 2) := by decide +kernel
theorem dX12_init_269 : decode cX12_init 269 = .ok (.putfield 109, 3) := by decide +kernel
theorem dX12_init_272 : decode cX12_init 272 = .ok (.aload_n 0, 1) := by decide +kernel
theorem dX12_init_273 : decode cX12_init 273 = .ok (.iconst 3, 1) := by decide +kernel
theorem dX12_init_274 : decode cX12_init 274 = .ok (.newarray .int, 2) := by decide +kernel
theorem dX12_init_276 : decode cX12_init 276 = .ok (.putfield 112, 3) := by decide +kernel
theorem dX12_init_279 : decode cX12_init 279 = .ok (.aload_n 0, 1) := by decide +kernel
theorem dX12_init_280 : decode cX12_init 280 = .ok (.iconst 3, 1) := by decide +kernel
theorem dX12_init_281 : decode cX12_init 281 = .ok (.newarray .int, 2) := by decide +kernel
theorem dX12_init_283 : decode cX12_init 283 = .ok (.putfield 115, 3) := by decide +kernel
theorem dX12_init_286 : decode cX12_init 286 = .ok (.aload_n 0, 1) := by decide +kernel
theorem dX12_init_287 : decode cX12_init 287 = .ok (.sipush 2000, 3) := by decide +kernel
theorem dX12_init_290 : decode cX12_init 290 = .ok (.putfield 118, 3) := by decide +kernel
theorem dX12_init_293 : decode cX12_init 293 = .ok (.aload_n 0, 1) := by decide +kernel
theorem dX12_init_294 : decode cX12_init 294 = .ok (.iconst 3, 1) := by decide +kernel
theorem dX12_init_295 : decode cX12_init 295 = .ok (.newarray .boolean, 2) := by decide +kernel
theorem dX12_init_297 : decode cX12_init 297 = .ok (.putfield 122, 3) := by decide +kernel
theorem dX12_init_300 : decode cX12_init 300 = .ok (.aload_n 0, 1) := by decide +kernel
theorem dX12_init_301 : decode cX12_init 301 = .ok (.iconst 3, 1) := by decide +kernel
theorem dX12_init_302 : decode cX12_init 302 = .ok (.newarray .boolean, 2) := by decide +kernel
theorem dX12_init_304 : decode cX12_init 304 = .ok (.putfield 125, 3) := by decide +kernel
theorem dX12_init_307 : decode cX12_init 307 = .ok (.aload_n 0, 1) := by decide +kernel
theorem dX12_init_308 : decode cX12_init 308 = .ok (.sipush 9000, 3) := by decide +kernel
theorem dX12_init_311 : decode cX12_init 311 = .ok (.newarray .int, 2) := by decide +kernel
theorem dX12_init_313 : decode cX12_init 313 = .ok (.putfield 128, 3) := by decide +kernel
theorem dX12_init_316 : decode cX12_init 316 = .ok (.aload_n 0, 1) := by decide +kernel
theorem dX12_init_317 : decode cX12_init 317 = .ok (.sipush 9000, 3) := by decide +kernel
theorem dX12_init_320 : decode cX12_init 320 = .ok (.newarray .int, 2) := by decide +kernel
theorem dX12_init_322 : decode cX12_init 322 = .ok (.putfield 131, 3) := by decide +kernel
theorem dX12_init_325 : decode cX12_init 325 = .ok (.aload_n 0, 1) := by decide +kernel
theorem dX12_init_326 : decode cX12_init 326 = .ok (.sipush 9000, 3) := by decide +kernel
theorem dX12_init_329 : decode cX12_init 329 = .ok (.newarray .int, 2) := by decide +kernel
theorem dX12_init_331 : decode cX12_init 331 = .ok (.putfield 134, 3) := by decide +kernel
theorem dX12_init_334 : decode cX12_init 334 = .ok (.aload_n 0, 1) := by decide +kernel
theorem dX12_init_335 : decode cX12_init 335 = .ok (.sipush 9000, 3) := by decide +kernel
theorem dX12_init_338 : decode cX12_init 338 = .ok (.newarray .int, 2) := by decide +kernel
theorem dX12_init_340 : decode cX12_init 340 = .ok (.putfield 137, 3) := by decide +kernel
theorem dX12_init_343 : decode cX12_init 343 = .ok (.aload_n 0, 1) := by decide +kernel
theorem dX12_init_344 : decode cX12_init 344 = .ok (.sipush 9000, 3) := by decide +kernel
theorem dX12_init_347 : decode cX12_init 347 = .ok (.newarray .int, 2) := by decide +kernel
theorem dX12_init_349 : decode cX12_init 349 = .ok (.putfield 140, 3) := by decide +kernel
theorem dX12_init_352 : decode cX12_init 352 = .ok (.aload_n 0, 1) := by decide +kernel
theorem dX12_init_353 : decode cX12_init 353 = .ok (.sipush 9000, 3) := by decide +kernel
theorem dX12_init_356 : decode cX12_init 356 = .ok (.newarray .int, 2) := by decide +kernel
theorem dX12_init_358 : decode cX12_init 358 = .ok (.putfield 143, 3) := by decide +kernel
theorem dX12_init_361 : decode cX12_init 361 = .ok (.aload_n 0, 1) := by decide +kernel
theorem dX12_init_362 : decode cX12_init 362 = .ok (.ldc 146, 2) := by decide +kernel
theorem dX12_init_364 : decode cX12_init 364 = .ok (.newarray .byte, 2) := by decide +kernel
theorem dX12_init_366 : decode cX12_init 366 = .ok (.putfield 147, 3) := by decide +kernel
theorem dX12_init_369 : decode cX12_init 369 = .ok (.aload_n 0, 1) := by decide +kernel
theorem dX12_init_370 : decode cX12_init 370 = .ok (.bipush 16, 2) := by decide +kernel
theorem dX12_init_372 : decode cX12_init 372 = .ok (.newarray .int, 2) := by decide +kernel
theorem dX12_init_374 : decode cX12_init 374 = .ok (.putfield 151, 3) := by decide +kernel
theorem dX12_init_377 : decode cX12_init 377 = .ok (.aload_n 0, 1) := by decide +kernel
theorem dX12_init_378 : decode cX12_init 378 = .ok (.iconst 3, 1) := by decide +kernel
theorem dX12_init_379 : decode cX12_init 379 = .ok (.newarray .int, 2) := by decide +kernel
theorem dX12_init_381 : decode cX12_init 381 = .ok (.putfield 154, 3) := by decide +kernel
theorem dX12_init_384 : decode cX12_init 384 = .ok (.aload_n 0, 1) := by decide +kernel
theorem dX12_init_385 : decode cX12_init 385 = .ok (.ldc 157, 2) := by decide +kernel
theorem dX12_init_387 : decode cX12_init 387 = .ok (.newarray .byte, 2) := by decide +kernel
theorem dX12_init_389 : decode cX12_init 389 = .ok (.putfield 158, 3) := by decide +kernel
theorem dX12_init_392 : decode cX12_init 392 = .ok (.aload_n 0, 1) := by decide +kernel
theorem dX12_init_393 : decode cX12_init 393 = .ok (.sipush 188, 3) := by decide +kernel
theorem dX12_init_396 : decode cX12_init 396 = .ok (.newarray .int, 2) := by decide +kernel
theorem dX12_init_398 : decode cX12_init 398 = .ok (.putfield 161, 3) := by decide +kernel
theorem dX12_init_401 : decode cX12_init 401 = .ok (.aload_n 0, 1) := by decide +kernel
theorem dX12_init_402 : decode cX12_init 402 = .ok (.bipush 7, 2) := by decide +kernel
theorem dX12_init_404 : decode cX12_init 404 = .ok (.newarray .int, 2) := by decide +kernel
theorem dX12_init_406 : decode cX12_init 406 = .ok (.putfield 164, 3) := by decide +kernel
theorem dX12_init_409 : decode cX12_init 409 = .ok (.aload_n 0, 1) := by decide +kernel
theorem dX12_init_410 : decode cX12_init 410 = .ok (.iconst 5, 1) := by decide +kernel
theorem dX12_init_411 : decode cX12_init 411 = .ok (.putfield 167, 3) := by decide +kernel
theorem dX12_init_414 : decode cX12_init 414 = .ok (.aload_n 0, 1) := by decide +kernel
theorem dX12_init_415 : decode cX12_init 415 = .ok (.iconst 4, 1) := by decide +kernel
theorem dX12_init_416 : decode cX12_init 416 = .ok (.putfield 170, 3) := by decide +kernel
theorem dX12_init_419 : decode cX12_init 419 = .ok (.aload_n 0, 1) := by decide +kernel
theorem dX12_init_420 : decode cX12_init 420 = .ok (.sipush 12032, 3) := by decide +kernel
theorem dX12_init_423 : decode cX12_init 423 = .ok (.newarray .byte, 2) := by decide +kernel
theorem dX12_init_425 : decode cX12_init 425 = .ok (.putfield 173, 3) := by decide +kernel
theorem dX12_init_428 : decode cX12_init 428 = .ok (.aload_n 0, 1) := by decide +kernel
theorem dX12_init_429 : decode cX12_init 429 = .ok (.bipush 64, 2) := by decide +kernel
theorem dX12_init_431 : decode cX12_init 431 = .ok (.newarray .boolean, 2) := by decide +kernel
theorem dX12_init_433 : decode cX12_init 433 = .ok (.putfield 176, 3) := by decide +kernel
theorem dX12_init_436 : decode cX12_init 436 = .ok (.aload_n 0, 1) := by decide +kernel
theorem dX12_init_437 : decode cX12_init 437 = .ok (.sipush 300, 3) := by decide +kernel
theorem dX12_init_440 : decode cX12_init 440 = .ok (.newarray .int, 2) := by decide +kernel
theorem dX12_init_442 : decode cX12_init 442 = .ok (.putfield 179, 3) := by decide +kernel
theorem dX12_init_445 : decode cX12_init 445 = .ok (.aload_n 0, 1) := by decide +kernel
theorem dX12_init_446 : decode cX12_init 446 = .ok (.sipush 300, 3) := by decide +kernel
theorem dX12_init_449 : decode cX12_init 449 = .ok (.newarray .int, 2) := by decide +kernel
theorem dX12_init_451 : decode cX12_init 451 = .ok (.putfield 182, 3) := by decide +kernel
theorem dX12_init_454 : decode cX12_init 454 = .ok (.aload_n 0, 1) := by decide +kernel
theorem dX12_init_455 : decode cX12_init 455 = .ok (.sipush 300, 3) := by decide +kernel
theorem dX12_init_458 : decode cX12_init 458 = .ok (.newarray .int, 2) := by decide +kernel
theorem dX12_init_460 : decode cX12_init 460 = .ok (.putfield 185, 3) := by decide +kernel
theorem dX12_init_463 : decode cX12_init 463 = .ok (.aload_n 0, 1) := by decide +kernel
theorem dX12_init_464 : decode cX12_init 464 = .ok (.sipush 300, 3) := by decide +kernel
theorem dX12_init_467 : decode cX12_init 467 = .ok (.newarray .int, 2) := by decide +kernel
theorem dX12_init_469 : decode cX12_init 469 = .ok (.putfield 188, 3) := by decide +kernel
theorem dX12_init_472 : decode cX12_init 472 = .ok (.aload_n 0, 1) := by decide +kernel
theorem dX12_init_473 : decode cX12_init 473 = .ok (.sipush 300, 3) := by decide +kernel
theorem dX12_init_476 : decode cX12_init 476 = .ok (.newarray .int, 2) := by decide +kernel
theorem dX12_init_478 : decode cX12_init 478 = .ok (.putfield 191, 3) := by decide +kernel
theorem dX12_init_481 : decode cX12_init 481 = .ok (.aload_n 0, 1) := by decide +kernel
theorem dX12_init_482 : decode cX12_init 482 = .ok (.bipush 9, 2) := by decide +kernel
theorem dX12_init_484 : decode cX12_init 484 = .ok (.newarray .int, 2) := by decide +kernel
theorem dX12_init_486 : decode cX12_init 486 = .ok (.putfield 194, 3) := by decide +kernel
theorem dX12_init_489 : decode cX12_init 489 = .ok (.aload_n 0, 1) := by decide +kernel
theorem dX12_init_490 : decode cX12_init 490 = .ok (.iconst (-1), 1) := by decide +kernel
theorem dX12_init_491 : decode cX12_init 491 = .ok (.putfield 197, 3) := by decide +kernel
theorem dX12_init_494 : decode cX12_init 494 = .ok (.aload_n 0, 1) := by decide +kernel
theorem dX12_init_495 : decode cX12_init 495 = .ok (.sipush 8192, 3) := by decide +kernel
theorem dX12_init_498 : decode cX12_init 498 = .ok (.newarray .int, 2) := by decide +kernel
theorem dX12_init_500 : decode cX12_init 500 = .ok (.putfield 200, 3) := by decide +kernel
theorem dX12_init_503 : decode cX12_init 503 = .ok (.aload_n 0, 1) := by decide +kernel
theorem dX12_init_504 : decode cX12_init 504 = .ok (.iconst 3, 1) := by decide +kernel
theorem dX12_init_505 : decode cX12_init 505 = .ok (.newarray .int, 2) := by decide +kernel
theorem dX12_init_507 : decode cX12_init 507 = .ok (.putfield 203, 3) := by decide +kernel
theorem dX12_init_510 : decode cX12_init 510 = .ok (.aload_n 0, 1) := by decide +kernel
theorem dX12_init_511 : decode cX12_init 511 = .ok (.iconst 3, 1) := by decide +kernel
theorem dX12_init_512 : decode cX12_init 512 = .ok (.newarray .int, 2) := by decide +kernel
theorem dX12_init_514 : decode cX12_init 514 = .ok (.putfield 206, 3) := by decide +kernel
theorem dX12_init_517 : decode cX12_init 517 = .ok (.aload_n 0, 1) := by decide +kernel
theorem dX12_init_518 : decode cX12_init 518 = .ok (.iconst 3, 1) := by decide +kernel
theorem dX12_init_519 : decode cX12_init 519 = .ok (.newarray .int, 2) := by decide +kernel
theorem dX12_init_521 : decode cX12_init 521 = .ok (.putfield 209, 3) := by decide +kernel
theorem dX12_init_524 : decode cX12_init 524 = .ok (.aload_n 0, 1) := by decide +kernel
theorem dX12_init_525 : decode cX12_init 525 = .ok (.iconst 3, 1) := by decide +kernel
theorem dX12_init_526 : decode cX12_init 526 = .ok (.newarray .int, 2) := by decide +kernel
theorem dX12_init_528 : decode cX12_init 528 = .ok (.putfield 212, 3) := by decide +kernel
theorem dX12_init_531 : decode cX12_init 531 = .ok (.aload_n 0, 1) := by decide +kernel
theorem dX12_init_532 : decode cX12_init 532 = .ok (.sipush 9600, 3) := by decide +kernel
theorem dX12_init_535 : decode cX12_init 535 = .ok (.newarray .byte, 2) := by decide +kernel
theorem dX12_init_537 : decode cX12_init 537 = .ok (.putfield 215, 3) := by decide +kernel
theorem dX12_init_540 : decode cX12_init 540 = .ok (.aload_n 0, 1) := by decide +kernel
theorem dX12_init_541 : decode cX12_init 541 = .ok (.iconst 3, 1) := by decide +kernel
theorem dX12_init_542 : decode cX12_init 542 = .ok (.newarray .int, 2) := by decide +kernel
theorem dX12_init_544 : decode cX12_init 544 = .ok (.putfield 218, 3) := by decide +kernel
theorem dX12_init_547 : decode cX12_init 547 = .ok (.aload_n 0, 1) := by decide +kernel
theorem dX12_init_548 : decode cX12_init 548 = .ok (.iconst 3, 1) := by decide +kernel
theorem dX12_init_549 : decode cX12_init 549 = .ok (.newarray .int, 2) := by decide +kernel
theorem dX12_init_551 : decode cX12_init 551 = .ok (.putfield 221, 3) := by decide +kernel
theorem dX12_init_554 : decode cX12_init 554 = .ok (.aload_n 0, 1) := by decide +kernel
theorem dX12_init_555 : decode cX12_init 555 = .ok (.sipush 9000, 3) := by decide +kernel
theorem dX12_init_558 : decode cX12_init 558 = .ok (.newarray .boolean, 2) := by decide +kernel
theorem dX12_init_560 : decode cX12_init 560 = .ok (.putfield 224, 3) := by decide +kernel
theorem dX12_init_563 : decode cX12_init 563 = .ok (.aload_n 0, 1) := by decide +kernel
theorem dX12_init_564 : decode cX12_init 564 = .ok (.sipush 9000, 3) := by decide +kernel
theorem dX12_init_567 : decode cX12_init 567 = .ok (.newarray .int, 2) := by decide +kernel
theorem dX12_init_569 : decode cX12_init 569 = .ok (.putfield 227, 3) := by decide +kernel
theorem dX12_init_572 : decode cX12_init 572 = .ok (.aload_n 0, 1) := by decide +kernel
theorem dX12_init_573 : decode cX12_init 573 = .ok (.sipush 9000, 3) := by decide +kernel
theorem dX12_init_576 : decode cX12_init 576 = .ok (.newarray .int, 2) := by decide +kernel
theorem dX12_init_578 : decode cX12_init 578 = .ok (.putfield 230, 3) := by decide +kernel
theorem dX12_init_581 : decode cX12_init 581 = .ok (.aload_n 0, 1) := by decide +kernel
theorem dX12_init_582 : decode cX12_init 582 = .ok (.sipush 9000, 3) := by decide +kernel
theorem dX12_init_585 : decode cX12_init 585 = .ok (.newarray .int, 2) := by decide +kernel
theorem dX12_init_587 : decode cX12_init 587 = .ok (.putfield 233, 3) := by decide +kernel
theorem dX12_init_590 : decode cX12_init 590 = .ok (.aload_n 0, 1) := by decide +kernel
theorem dX12_init_591 : decode cX12_init 591 = .ok (.sipush 9000, 3) := by decide +kernel
theorem dX12_init_594 : decode cX12_init 594 = .ok (.newarray .int, 2) := by decide +kernel
theorem dX12_init_596 : decode cX12_init 596 = .ok (.putfield 236, 3) := by decide +kernel
theorem dX12_init_599 : decode cX12_init 599 = .ok (.aload_n 0, 1) := by decide +kernel
theorem dX12_init_600 : decode cX12_init 600 = .ok (.iconst 3, 1) := by decide +kernel
theorem dX12_init_601 : decode cX12_init 601 = .ok (.newarray .int, 2) := by decide +kernel
theorem dX12_init_603 : decode cX12_init 603 = .ok (.putfield 239, 3) := by decide +kernel
theorem dX12_init_606 : decode cX12_init 606 = .ok (.aload_n 0, 1) := by decide +kernel
theorem dX12_init_607 : decode cX12_init 607 = .ok (.sipush 9000, 3) := by decide +kernel
theorem dX12_init_610 : decode cX12_init 610 = .ok (.newarray .int, 2) := by decide +kernel
theorem dX12_init_612 : decode cX12_init 612 = .ok (.putfield 242, 3) := by decide +kernel
theorem dX12_init_615 : decode cX12_init 615 = .ok (.aload_n 0, 1) := by decide +kernel
theorem dX12_init_616 : decode cX12_init 616 = .ok (.sipush 9000, 3) := by decide +kernel
theorem dX12_init_619 : decode cX12_init 619 = .ok (.newarray .int, 2) := by decide +kernel
theorem dX12_init_621 : decode cX12_init 621 = .ok (.putfield 245, 3) := by decide +kernel
theorem dX12_init_624 : decode cX12_init 624 = .ok (.aload_n 0, 1) := by decide +kernel
theorem dX12_init_625 : decode cX12_init 625 = .ok (.iconst 3, 1) := by decide +kernel
theorem dX12_init_626 : decode cX12_init 626 = .ok (.newarray .int, 2) := by decide +kernel
theorem dX12_init_628 : decode cX12_init 628 = .ok (.putfield 248, 3) := by decide +kernel
theorem dX12_init_631 : decode cX12_init 631 = .ok (.aload_n 0, 1) := by decide +kernel
theorem dX12_init_632 : decode cX12_init 632 = .ok (.sipush 2700, 3) := by decide +kernel
theorem dX12_init_635 : decode cX12_init 635 = .ok (.newarray .int, 2) := by decide +kernel
theorem dX12_init_637 : decode cX12_init 637 = .ok (.putfield 251, 3) := by decide +kernel
theorem dX12_init_640 : decode cX12_init 640 = .ok (.aload_n 0, 1) := by decide +kernel
theorem dX12_init_641 : decode cX12_init 641 = .ok (.sipush 2700, 3) := by decide +kernel
theorem dX12_init_644 : decode cX12_init 644 = .ok (.newarray .int, 2) := by decide +kernel
theorem dX12_init_646 : decode cX12_init 646 = .ok (.putfield 254, 3) := by decide +kernel
theorem dX12_init_649 : decode cX12_init 649 = .ok (.aload_n 0, 1) := by decide +kernel
theorem dX12_init_650 : decode cX12_init 650 = .ok (.sipush 2700, 3) := by decide +kernel
theorem dX12_init_653 : decode cX12_init 653 = .ok (.newarray .int, 2) := by decide +kernel
theorem dX12_init_655 : decode cX12_init 655 = .ok (.putfield 257, 3) := by decide +kernel
theorem dX12_init_658 : decode cX12_init 658 = .ok (.aload_n 0, 1) := by decide +kernel
theorem dX12_init_659 : decode cX12_init 659 = .ok (.bipush 6, 2) := by decide +kernel
theorem dX12_init_661 : decode cX12_init 661 = .ok (.newarray .int, 2) := by decide +kernel
theorem dX12_init_663 : decode cX12_init 663 = .ok (.putfield 260, 3) := by decide +kernel
theorem dX12_init_666 : decode cX12_init 666 = .ok (.aload_n 0, 1) := by decide +kernel
theorem dX12_init_667 : decode cX12_init 667 = .ok (.bipush 6, 2) := by decide +kernel
theorem dX12_init_669 : decode cX12_init 669 = .ok (.newarray .int, 2) := by decide +kernel
theorem dX12_init_671 : decode cX12_init 671 = .ok (.putfield 263, 3) := by decide +kernel
theorem dX12_init_674 : decode cX12_init 674 = .ok (.aload_n 0, 1) := by decide +kernel
theorem dX12_init_675 : decode cX12_init 675 = .ok (.bipush 12, 2) := by decide +kernel
theorem dX12_init_677 : decode cX12_init 677 = .ok (.newarray .int, 2) := by decide +kernel
theorem dX12_init_679 : decode cX12_init 679 = .ok (.putfield 266, 3) := by decide +kernel
theorem dX12_init_682 : decode cX12_init 682 = .ok (.aload_n 0, 1) := by decide +kernel
theorem dX12_init_683 : decode cX12_init 683 = .ok (.sipush 3000, 3) := by decide +kernel
theorem dX12_init_686 : decode cX12_init 686 = .ok (.newarray .int, 2) := by decide +kernel
theorem dX12_init_688 : decode cX12_init 688 = .ok (.putfield 269, 3) := by decide +kernel
theorem dX12_init_691 : decode cX12_init 691 = .ok (.aload_n 0, 1) := by decide +kernel
theorem dX12_init_692 : decode cX12_init 692 = .ok (.sipush 3000, 3) := by decide +kernel
theorem dX12_init_695 : decode cX12_init 695 = .ok (.newarray .int, 2) := by decide +kernel
theorem dX12_init_697 : decode cX12_init 697 = .ok (.putfield 272, 3) := by decide +kernel
theorem dX12_init_700 : decode cX12_init 700 = .ok (.aload_n 0, 1) := by decide +kernel
theorem dX12_init_701 : decode cX12_init 701 = .ok (.iload_n 1, 1) := by decide +kernel
theorem dX12_init_702 : decode cX12_init 702 = .ok (.bipush 12, 2) := by decide +kernel
theorem dX12_init_704 : decode cX12_init 704 = .ok (.if_icmp .ge 8, 3) := by decide +kernel
theorem dX12_init_707 : decode cX12_init 707 = .ok (.bipush 12, 2) := by decide +kernel
theorem dX12_init_709 : decode cX12_init 709 = .ok (.goto 15, 3) := by decide +kernel
theorem dX12_init_712 : decode cX12_init 712 = .ok (.iload_n 1, 1) := by decide +kernel
theorem dX12_init_713 : decode cX12_init 713 = .ok (.bipush 40, 2) := by decide +kernel
theorem dX12_init_715 : decode cX12_init 715 = .ok (.if_icmp .le 8, 3) := by decide +kernel
theorem dX12_init_718 : decode cX12_init 718 = .ok (.bipush 40, 2) := by decide +kernel
theorem dX12_init_720 : decode cX12_init 720 = .ok (.goto 4, 3) := by decide +kernel
theorem dX12_init_723 : decode cX12_init 723 = .ok (.iload_n 1, 1) := by decide +kernel
theorem dX12_init_724 : decode cX12_init 724 = .ok (.putfield 275, 3) := by decide +kernel
theorem dX12_init_727 : decode cX12_init 727 = .ok (.aload_n 0, 1) := by decide +kernel
theorem dX12_init_728 : decode cX12_init 728 = .ok (.ldc2_w 278, 3) := by decide +kernel
theorem dX12_init_731 : decode cX12_init 731 = .ok (.iload_n 2, 1) := by decide +kernel
theorem dX12_init_732 : decode cX12_init 732 = .ok (.i2l, 1) := by decide +kernel
theorem dX12_init_733 : decode cX12_init 733 = .ok (.ldc2_w 280, 3) := by decide +kernel
theorem dX12_init_736 : decode cX12_init 736 = .ok (.land, 1) := by decide +kernel
theorem dX12_init_737 : decode cX12_init 737 = .ok (.lmul, 1) := by decide +kernel
theorem dX12_init_738 : decode cX12_init 738 = .ok (.putfield 282, 3) := by decide +kernel
theorem dX12_init_741 : decode cX12_init 741 = .ok (.iconst 0, 1) := by decide +kernel
theorem dX12_init_742 : decode cX12_init 742 = .ok (.istore_n 3, 1) := by decide +kernel
theorem dX12_init_743 : decode cX12_init 743 = .ok (.iload_n 3, 1) := by decide +kernel
theorem dX12_init_744 : decode cX12_init 744 = .ok (.iconst 3, 1) := by decide +kernel
theorem dX12_init_745 : decode cX12_init 745 = .ok (.if_icmp .ge 135, 3) := by decide +kernel
theorem dX12_init_748 : decode cX12_init 748 = .ok (.aload_n 0, 1) := by decide +kernel
theorem dX12_init_749 : decode cX12_init 749 = .ok (.getfield 58, 3) := by decide +kernel
theorem dX12_init_752 : decode cX12_init 752 = .ok (.iload_n 3, 1) := by decide +kernel
theorem dX12_init_753 : decode cX12_init 753 = .ok (.iconst (-1), 1) := by decide +kernel
theorem dX12_init_754 : decode cX12_init 754 = .ok (.iastore, 1) := by decide +kernel
theorem dX12_init_755 : decode cX12_init 755 = .ok (.aload_n 0, 1) := by decide +kernel
theorem dX12_init_756 : decode cX12_init 756 = .ok (.getfield 76, 3) := by decide +kernel
theorem dX12_init_759 : decode cX12_init 759 = .ok (.iload_n 3, 1) := by decide +kernel
theorem dX12_init_760 : decode cX12_init 760 = .ok (.iconst (-1), 1) := by decide +kernel
theorem dX12_init_761 : decode cX12_init 761 = .ok (.iastore, 1) := by decide +kernel
theorem dX12_init_762 : decode cX12_init 762 = .ok (.aload_n 0, 1) := by decide +kernel
theorem dX12_init_763 : decode cX12_init 763 = .ok (.getfield 106, 3) := by decide +kernel
theorem dX12_init_766 : decode cX12_init 766 = .ok (.iload_n 3, 1) := by decide +kernel
theorem dX12_init_767 : decode cX12_init 767 = .ok (.bipush 100, 2) := by decide +kernel
theorem dX12_init_769 : decode cX12_init 769 = .ok (.iastore, 1) := by decide +kernel
theorem dX12_init_770 : decode cX12_init 770 = .ok (.aload_n 0, 1) := by decide +kernel
theorem dX12_init_771 : decode cX12_init 771 = .ok (.getfield 109, 3) := by decide +kernel
theorem dX12_init_774 : decode cX12_init 774 = .ok (.iload_n 3, 1) := by decide +kernel
theorem dX12_init_775 : decode cX12_init 775 = .ok (.sipush 1500, 3) := by decide +kernel
theorem dX12_init_778 : decode cX12_init 778 = .ok (.iastore, 1) := by decide +kernel
theorem dX12_init_779 : decode cX12_init 779 = .ok (.aload_n 0, 1) := by decide +kernel
theorem dX12_init_780 : decode cX12_init 780 = .ok (.getfield 112, 3) := by decide +kernel
theorem dX12_init_783 : decode cX12_init 783 = .ok (.iload_n 3, 1) := by decide +kernel
theorem dX12_init_784 : decode cX12_init 784 = .ok (.bipush 10, 2) := by decide +kernel
theorem dX12_init_786 : decode cX12_init 786 = .ok (.iastore, 1) := by decide +kernel
theorem dX12_init_787 : decode cX12_init 787 = .ok (.aload_n 0, 1) := by decide +kernel
theorem dX12_init_788 : decode cX12_init 788 = .ok (.getfield 115, 3) := by decide +kernel
theorem dX12_init_791 : decode cX12_init 791 = .ok (.iload_n 3, 1) := by decide +kernel
theorem dX12_init_792 : decode cX12_init 792 = .ok (.sipush 8000, 3) := by decide +kernel
theorem dX12_init_795 : decode cX12_init 795 = .ok (.iastore, 1) := by decide +kernel
theorem dX12_init_796 : decode cX12_init 796 = .ok (.aload_n 0, 1) := by decide +kernel
theorem dX12_init_797 : decode cX12_init 797 = .ok (.getfield 122, 3) := by decide +kernel
theorem dX12_init_800 : decode cX12_init 800 = .ok (.iload_n 3, 1) := by decide +kernel
theorem dX12_init_801 : decode cX12_init 801 = .ok (.iconst 1, 1) := by decide +kernel
theorem dX12_init_802 : decode cX12_init 802 = .ok (.bastore, 1) := by decide +kernel
theorem dX12_init_803 : decode cX12_init 803 = .ok (.aload_n 0, 1) := by decide +kernel
theorem dX12_init_804 : decode cX12_init 804 = .ok (.getfield 125, 3) := by decide +kernel
theorem dX12_init_807 : decode cX12_init 807 = .ok (.iload_n 3, 1) := by decide +kernel
theorem dX12_init_808 : decode cX12_init 808 = .ok (.iconst 1, 1) := by decide +kernel
theorem dX12_init_809 : decode cX12_init 809 = .ok (.bastore, 1) := by decide +kernel
theorem dX12_init_810 : decode cX12_init 810 = .ok (.aload_n 0, 1) := by decide +kernel
theorem dX12_init_811 : decode cX12_init 811 = .ok (.getfield 203, 3) := by decide +kernel
theorem dX12_init_814 : decode cX12_init 814 = .ok (.iload_n 3, 1) := by decide +kernel
theorem dX12_init_815 : decode cX12_init 815 = .ok (.iconst (-1), 1) := by decide +kernel
theorem dX12_init_816 : decode cX12_init 816 = .ok (.iastore, 1) := by decide +kernel
theorem dX12_init_817 : decode cX12_init 817 = .ok (.aload_n 0, 1) := by decide +kernel
theorem dX12_init_818 : decode cX12_init 818 = .ok (.getfield 206, 3) := by decide +kernel
theorem dX12_init_821 : decode cX12_init 821 = .ok (.iload_n 3, 1) := by decide +kernel
theorem dX12_init_822 : decode cX12_init 822 = .ok (.iconst (-1), 1) := by decide +kernel
theorem dX12_init_823 : decode cX12_init 823 = .ok (.iastore, 1) := by decide +kernel
theorem dX12_init_824 : decode cX12_init 824 = .ok (.aload_n 0, 1) := by decide +kernel
theorem dX12_init_825 : decode cX12_init 825 = .ok (.getfield 212, 3) := by decide +kernel
theorem dX12_init_828 : decode cX12_init 828 = .ok (.iload_n 3, 1) := by decide +kernel
theorem dX12_init_829 : decode cX12_init 829 = .ok (.iconst (-1), 1) := by decide +kernel
theorem dX12_init_830 : decode cX12_init 830 = .ok (.iastore, 1) := by decide +kernel
theorem dX12_init_831 : decode cX12_init 831 = .ok (.aload_n 0, 1) := by decide +kernel
theorem dX12_init_832 : decode cX12_init 832 = .ok (.getfield 209, 3) := by decide +kernel
theorem dX12_init_835 : decode cX12_init 835 = .ok (.iload_n 3, 1) := by decide +kernel
theorem dX12_init_836 : decode cX12_init 836 = .ok (.iconst (-1), 1) := by decide +kernel
theorem dX12_init_837 : decode cX12_init 837 = .ok (.iastore, 1) := by decide +kernel
theorem dX12_init_838 : decode cX12_init 838 = .ok (.aload_n 0, 1) := by decide +kernel
theorem dX12_init_839 : decode cX12_init 839 = .ok (.getfield 218, 3) := by decide +kernel
theorem dX12_init_842 : decode cX12_init 842 = .ok (.iload_n 3, 1) := by decide +kernel
theorem dX12_init_843 : decode cX12_init 843 = .ok (.bipush (-9), 2) := by decide +kernel
theorem dX12_init_845 : decode cX12_init 845 = .ok (.iastore, 1) := by decide +kernel
theorem dX12_init_846 : decode cX12_init 846 = .ok (.aload_n 0, 1) := by decide +kernel
theorem dX12_init_847 : decode cX12_init 847 = .ok (.getfield 221, 3) := by decide +kernel
theorem dX12_init_850 : decode cX12_init 850 = .ok (.iload_n 3, 1) := by decide +kernel
theorem dX12_init_851 : decode cX12_init 851 = .ok (.bipush (-9), 2) := by decide +kernel
theorem dX12_init_853 : decode cX12_init 853 = .ok (.iastore, 1) := by decide +kernel
theorem dX12_init_854 : decode cX12_init 854 = .ok (.aload_n 0, 1) := by decide +kernel
theorem dX12_init_855 : decode cX12_init 855 = .ok (.getfield 260, 3) := by decide +kernel
theorem dX12_init_858 : decode cX12_init 858 = .ok (.iconst 2, 1) := by decide +kernel
theorem dX12_init_859 : decode cX12_init 859 = .ok (.iload_n 3, 1) := by decide +kernel
theorem dX12_init_860 : decode cX12_init 860 = .ok (.imul, 1) := by decide +kernel
theorem dX12_init_861 : decode cX12_init 861 = .ok (.iconst (-1), 1) := by decide +kernel
theorem dX12_init_862 : decode cX12_init 862 = .ok (.iastore, 1) := by decide +kernel
theorem dX12_init_863 : decode cX12_init 863 = .ok (.aload_n 0, 1) := by decide +kernel
theorem dX12_init_864 : decode cX12_init 864 = .ok (.getfield 260, 3) := by decide +kernel
theorem dX12_init_867 : decode cX12_init 867 = .ok (.iconst 2, 1) := by decide +kernel
theorem dX12_init_868 : decode cX12_init 868 = .ok (.iload_n 3, 1) := by decide +kernel
theorem dX12_init_869 : decode cX12_init 869 = .ok (.imul, 1) := by decide +kernel
theorem dX12_init_870 : decode cX12_init 870 = .ok (.iconst 1, 1) := by decide +kernel
theorem dX12_init_871 : decode cX12_init 871 = .ok (.iadd, 1) := by decide +kernel
theorem dX12_init_872 : decode cX12_init 872 = .ok (.iconst (-1), 1) := by decide +kernel
theorem dX12_init_873 : decode cX12_init 873 = .ok (.iastore, 1) := by decide +kernel
theorem dX12_init_874 : decode cX12_init 874 = .ok (.iinc 3 1, 3) := by decide +kernel
theorem dX12_init_877 : decode cX12_init 877 = .ok (.goto (-134), 3) := by decide +kernel
theorem dX12_init_880 : decode cX12_init 880 = .ok (.iconst 0, 1) := by decide +kernel
theorem dX12_init_881 : decode cX12_init 881 = .ok (.istore_n 3, 1) := by decide +kernel
theorem dX12_init_882 : decode cX12_init 882 = .ok (.iload_n 3, 1) := by decide +kernel
theorem dX12_init_883 : decode cX12_init 883 = .ok (.bipush 7, 2) := by decide +kernel
theorem dX12_init_885 : decode cX12_init 885 = .ok (.if_icmp .ge 17, 3) := by decide +kernel
theorem dX12_init_888 : decode cX12_init 888 = .ok (.aload_n 0, 1) := by decide +kernel
theorem dX12_init_889 : decode cX12_init 889 = .ok (.getfield 164, 3) := by decide +kernel
theorem dX12_init_892 : decode cX12_init 892 = .ok (.iload_n 3, 1) := by decide +kernel
theorem dX12_init_893 : decode cX12_init 893 = .ok (.bipush 15, 2) := by decide +kernel
theorem dX12_init_895 : decode cX12_init 895 = .ok (.iastore, 1) := by decide +kernel
theorem dX12_init_896 : decode cX12_init 896 = .ok (.iinc 3 1, 3) := by decide +kernel
theorem dX12_init_899 : decode cX12_init 899 = .ok (.goto (-17), 3) := by decide +kernel
theorem dX12_init_902 : decode cX12_init 902 = .ok (.iconst 0, 1) := by decide +kernel
theorem dX12_init_903 : decode cX12_init 903 = .ok (.istore_n 3, 1) := by decide +kernel
theorem dX12_init_904 : decode cX12_init 904 = .ok (.iload_n 3, 1) := by decide +kernel
theorem dX12_init_905 : decode cX12_init 905 = .ok (.sipush 8192, 3) := by decide +kernel
theorem dX12_init_908 : decode cX12_init 908 = .ok (.if_icmp .ge 16, 3) := by decide +kernel
theorem dX12_init_911 : decode cX12_init 911 = .ok (.aload_n 0, 1) := by decide +kernel
theorem dX12_init_912 : decode cX12_init 912 = .ok (.getfield 200, 3) := by decide +kernel
theorem dX12_init_915 : decode cX12_init 915 = .ok (.iload_n 3, 1) := by decide +kernel
theorem dX12_init_916 : decode cX12_init 916 = .ok (.iconst (-1), 1) := by decide +kernel
theorem dX12_init_917 : decode cX12_init 917 = .ok (.iastore, 1) := by decide +kernel
theorem dX12_init_918 : decode cX12_init 918 = .ok (.iinc 3 1, 3) := by decide +kernel
theorem dX12_init_921 : decode cX12_init 921 = .ok (.goto (-17), 3) := by decide +kernel
theorem dX12_init_924 : decode cX12_init 924 = .ok (.iconst 0, 1) := by decide +kernel
theorem dX12_init_925 : decode cX12_init 925 = .ok (.istore_n 3, 1) := by decide +kernel
theorem dX12_init_926 : decode cX12_init 926 = .ok (.iload_n 3, 1) := by decide +kernel
theorem dX12_init_927 : decode cX12_init 927 = .ok (.bipush 16, 2) := by decide +kernel
theorem dX12_init_929 : decode cX12_init 929 = .ok (.if_icmp .ge 60, 3) := by decide +kernel
theorem dX12_init_932 : decode cX12_init 932 = .ok (.iload_n 3, 1) := by decide +kernel
theorem dX12_init_933 : decode cX12_init 933 = .ok (.bipush 28, 2) := by decide +kernel
theorem dX12_init_935 : decode cX12_init 935 = .ok (.ishl, 1) := by decide +kernel
theorem dX12_init_936 : decode cX12_init 936 = .ok (.istore 4, 2) := by decide +kernel
theorem dX12_init_938 : decode cX12_init 938 = .ok (.iconst 0, 1) := by decide +kernel
theorem dX12_init_939 : decode cX12_init 939 = .ok (.istore 5, 2) := by decide +kernel
theorem dX12_init_941 : decode cX12_init 941 = .ok (.iload 5, 2) := by decide +kernel
theorem dX12_init_943 : decode cX12_init 943 = .ok (.iconst 4, 1) := by decide +kernel
theorem dX12_init_944 : decode cX12_init 944 = .ok (.if_icmp .ge 31, 3) := by decide +kernel
theorem dX12_init_947 : decode cX12_init 947 = .ok (.iload 4, 2) := by decide +kernel
theorem dX12_init_949 : decode cX12_init 949 = .ok (.ifCond .ge 14, 3) := by decide +kernel
theorem dX12_init_952 : decode cX12_init 952 = .ok (.iload 4, 2) := by decide +kernel
theorem dX12_init_954 : decode cX12_init 954 = .ok (.iconst 1, 1) := by decide +kernel
theorem dX12_init_955 : decode cX12_init 955 = .ok (.ishl, 1) := by decide +kernel
theorem dX12_init_956 : decode cX12_init 956 = .ok (.ldc_w 286, 3) := by decide +kernel
theorem dX12_init_959 : decode cX12_init 959 = .ok (.ixor, 1) := by decide +kernel
theorem dX12_init_960 : decode cX12_init 960 = .ok (.goto 7, 3) := by decide +kernel
theorem dX12_init_963 : decode cX12_init 963 = .ok (.iload 4, 2) := by decide +kernel
theorem dX12_init_965 : decode cX12_init 965 = .ok (.iconst 1, 1) := by decide +kernel
theorem dX12_init_966 : decode cX12_init 966 = .ok (.ishl, 1) := by decide +kernel
theorem dX12_init_967 : decode cX12_init 967 = .ok (.istore 4, 2) := by decide +kernel
theorem dX12_init_969 : decode cX12_init 969 = .ok (.iinc 5 1, 3) := by decide +kernel
theorem dX12_init_972 : decode cX12_init 972 = .ok (.goto (-31), 3) := by decide +kernel
theorem dX12_init_975 : decode cX12_init 975 = .ok (.aload_n 0, 1) := by decide +kernel
theorem dX12_init_976 : decode cX12_init 976 = .ok (.getfield 151, 3) := by decide +kernel
theorem dX12_init_979 : decode cX12_init 979 = .ok (.iload_n 3, 1) := by decide +kernel
theorem dX12_init_980 : decode cX12_init 980 = .ok (.iload 4, 2) := by decide +kernel
theorem dX12_init_982 : decode cX12_init 982 = .ok (.iastore, 1) := by decide +kernel
theorem dX12_init_983 : decode cX12_init 983 = .ok (.iinc 3 1, 3) := by decide +kernel
theorem dX12_init_986 : decode cX12_init 986 = .ok (.goto (-60), 3) := by decide +kernel
theorem dX12_init_989 : decode cX12_init 989 = .ok (.return_, 1) := by decide +kernel
theorem dX12_in_0 : decode cX12_in 0 = .ok (.lload_n 0, 1) := by decide +kernel
theorem dX12_in_1 : decode cX12_in 1 = .ok (.lload_n 2, 1) := by decide +kernel
theorem dX12_in_2 : decode cX12_in 2 = .ok (.lcmp, 1) := by decide +kernel
theorem dX12_in_3 : decode cX12_in 3 = .ok (.ifCond .lt 14, 3) := by decide +kernel
theorem dX12_in_6 : decode cX12_in 6 = .ok (.lload_n 0, 1) := by decide +kernel
theorem dX12_in_7 : decode cX12_in 7 = .ok (.lload 4, 2) := by decide +kernel
theorem dX12_in_9 : decode cX12_in 9 = .ok (.lcmp, 1) := by decide +kernel
theorem dX12_in_10 : decode cX12_in 10 = .ok (.ifCond .gt 7, 3) := by decide +kernel
theorem dX12_in_13 : decode cX12_in 13 = .ok (.iconst 1, 1) := by decide +kernel
theorem dX12_in_14 : decode cX12_in 14 = .ok (.goto 4, 3) := by decide +kernel
theorem dX12_in_17 : decode cX12_in 17 = .ok (.iconst 0, 1) := by decide +kernel
theorem dX12_in_18 : decode cX12_in 18 = .ok (.ireturn, 1) := by decide +kernel
theorem dX12_isChannel_0 : decode cX12_isChannel 0 = .ok (.iload_n 0, 1) := by decide +kernel
theorem dX12_isChannel_1 : decode cX12_isChannel 1 = .ok (.i2l, 1) := by decide +kernel
theorem dX12_isChannel_2 : decode cX12_isChannel 2 = .ok (.lconst 0, 1) := by decide +kernel
theorem dX12_isChannel_3 : decode cX12_isChannel 3 = .ok (.ldc2_w 278, 3) := by decide +kernel
theorem dX12_isChannel_6 : decode cX12_isChannel 6 = .ok (.invokestatic 287, 3) := by decide +kernel
theorem dX12_isChannel_9 : decode cX12_isChannel 9 = .ok (.ireturn, 1) := by decide +kernel
theorem dX12_reach_0 : decode cX12_reach 0 = .ok (.iconst 0, 1) := by decide +kernel
theorem dX12_reach_1 : decode cX12_reach 1 = .ok (.istore 4, 2) := by decide +kernel
theorem dX12_reach_3 : decode cX12_reach 3 = .ok (.iload 4, 2) := by decide +kernel
theorem dX12_reach_5 : decode cX12_reach 5 = .ok (.iload_n 1, 1) := by decide +kernel
theorem dX12_reach_6 : decode cX12_reach 6 = .ok (.if_icmp .ge 23, 3) := by decide +kernel
theorem dX12_reach_9 : decode cX12_reach 9 = .ok (.aload_n 0, 1) := by decide +kernel
theorem dX12_reach_10 : decode cX12_reach 10 = .ok (.iload 4, 2) := by decide +kernel
theorem dX12_reach_12 : decode cX12_reach 12 = .ok (.iload 4, 2) := by decide +kernel
theorem dX12_reach_14 : decode cX12_reach 14 = .ok (.ifCond .ne 7, 3) := by decide +kernel
theorem dX12_reach_17 : decode cX12_reach 17 = .ok (.iconst 1, 1) := by decide +kernel
theorem dX12_reach_18 : decode cX12_reach 18 = .ok (.goto 4, 3) := by decide +kernel
theorem dX12_reach_21 : decode cX12_reach 21 = .ok (.iconst 0, 1) := by decide +kernel
theorem dX12_reach_22 : decode cX12_reach 22 = .ok (.bastore, 1) := by decide +kernel
theorem dX12_reach_23 : decode cX12_reach 23 = .ok (.iinc 4 1, 3) := by decide +kernel
theorem dX12_reach_26 : decode cX12_reach 26 = .ok (.goto (-23), 3) := by decide +kernel
theorem dX12_reach_29 : decode cX12_reach 29 = .ok (.iconst 1, 1) := by decide +kernel
theorem dX12_reach_30 : decode cX12_reach 30 = .ok (.istore 4, 2) := by decide +kernel
theorem dX12_reach_32 : decode cX12_reach 32 = .ok (.iload 4, 2) := by decide +kernel
theorem dX12_reach_34 : decode cX12_reach 34 = .ok (.bipush 12, 2) := by decide +kernel
theorem dX12_reach_36 : decode cX12_reach 36 = .ok (.if_icmp .gt 91, 3) := by decide +kernel
theorem dX12_reach_39 : decode cX12_reach 39 = .ok (.iconst 0, 1) := by decide +kernel
theorem dX12_reach_40 : decode cX12_reach 40 = .ok (.istore 5, 2) := by decide +kernel
theorem dX12_reach_42 : decode cX12_reach 42 = .ok (.iload 5, 2) := by decide +kernel
theorem dX12_reach_44 : decode cX12_reach 44 = .ok (.iload_n 1, 1) := by decide +kernel
theorem dX12_reach_45 : decode cX12_reach 45 = .ok (.if_icmp .ge 76, 3) := by decide +kernel
theorem dX12_reach_48 : decode cX12_reach 48 = .ok (.iconst 0, 1) := by decide +kernel
theorem dX12_reach_49 : decode cX12_reach 49 = .ok (.istore 6, 2) := by decide +kernel
theorem dX12_reach_51 : decode cX12_reach 51 = .ok (.iconst 0, 1) := by decide +kernel
theorem dX12_reach_52 : decode cX12_reach 52 = .ok (.istore 7, 2) := by decide +kernel
theorem dX12_reach_54 : decode cX12_reach 54 = .ok (.iload 7, 2) := by decide +kernel
theorem dX12_reach_56 : decode cX12_reach 56 = .ok (.iload_n 3, 1) := by decide +kernel
theorem dX12_reach_57 : decode cX12_reach 57 = .ok (.if_icmp .ge 47, 3) := by decide +kernel
theorem dX12_reach_60 : decode cX12_reach 60 = .ok (.iload 6, 2) := by decide +kernel
theorem dX12_reach_62 : decode cX12_reach 62 = .ok (.iload 5, 2) := by decide +kernel
theorem dX12_reach_64 : decode cX12_reach 64 = .ok (.aload_n 2, 1) := by decide +kernel
theorem dX12_reach_65 : decode cX12_reach 65 = .ok (.iload 7, 2) := by decide +kernel
theorem dX12_reach_67 : decode cX12_reach 67 = .ok (.iaload, 1) := by decide +kernel
theorem dX12_reach_68 : decode cX12_reach 68 = .ok (.if_icmp .lt 26, 3) := by decide +kernel
theorem dX12_reach_71 : decode cX12_reach 71 = .ok (.aload_n 0, 1) := by decide +kernel
theorem dX12_reach_72 : decode cX12_reach 72 = .ok (.iload_n 1, 1) := by decide +kernel
theorem dX12_reach_73 : decode cX12_reach 73 = .ok (.iload 4, 2) := by decide +kernel
theorem dX12_reach_75 : decode cX12_reach 75 = .ok (.iconst 1, 1) := by decide +kernel
theorem dX12_reach_76 : decode cX12_reach 76 = .ok (.isub, 1) := by decide +kernel
theorem dX12_reach_77 : decode cX12_reach 77 = .ok (.imul, 1) := by decide +kernel
theorem dX12_reach_78 : decode cX12_reach 78 = .ok (.iload 5, 2) := by decide +kernel
theorem dX12_reach_80 : decode cX12_reach 80 = .ok (.iadd, 1) := by decide +kernel
theorem dX12_reach_81 : decode cX12_reach 81 = .ok (.aload_n 2, 1) := by decide +kernel
theorem dX12_reach_82 : decode cX12_reach 82 = .ok (.iload 7, 2) := by decide +kernel
theorem dX12_reach_84 : decode cX12_reach 84 = .ok (.iaload, 1) := by decide +kernel
theorem dX12_reach_85 : decode cX12_reach 85 = .ok (.isub, 1) := by decide +kernel
theorem dX12_reach_86 : decode cX12_reach 86 = .ok (.baload, 1) := by decide +kernel
theorem dX12_reach_87 : decode cX12_reach 87 = .ok (.ifCond .eq 7, 3) := by decide +kernel
theorem dX12_reach_90 : decode cX12_reach 90 = .ok (.iconst 1, 1) := by decide +kernel
theorem dX12_reach_91 : decode cX12_reach 91 = .ok (.goto 4, 3) := by decide +kernel
theorem dX12_reach_94 : decode cX12_reach 94 = .ok (.iconst 0, 1) := by decide +kernel
theorem dX12_reach_95 : decode cX12_reach 95 = .ok (.ior, 1) := by decide +kernel
theorem dX12_reach_96 : decode cX12_reach 96 = .ok (.istore 6, 2) := by decide +kernel
theorem dX12_reach_98 : decode cX12_reach 98 = .ok (.iinc 7 1, 3) := by decide +kernel
theorem dX12_reach_101 : decode cX12_reach 101 = .ok (.goto (-47), 3) := by decide +kernel
theorem dX12_reach_104 : decode cX12_reach 104 = .ok (.aload_n 0, 1) := by decide +kernel
theorem dX12_reach_105 : decode cX12_reach 105 = .ok (.iload_n 1, 1) := by decide +kernel
theorem dX12_reach_106 : decode cX12_reach 106 = .ok (.iload 4, 2) := by decide +kernel
theorem dX12_reach_108 : decode cX12_reach 108 = .ok (.imul, 1) := by decide +kernel
theorem dX12_reach_109 : decode cX12_reach 109 = .ok (.iload 5, 2) := by decide +kernel
theorem dX12_reach_111 : decode cX12_reach 111 = .ok (.iadd, 1) := by decide +kernel
theorem dX12_reach_112 : decode cX12_reach 112 = .ok (.iload 6, 2) := by decide +kernel
theorem dX12_reach_114 : decode cX12_reach 114 = .ok (.bastore, 1) := by decide +kernel
theorem dX12_reach_115 : decode cX12_reach 115 = .ok (.iinc 5 1, 3) := by decide +kernel
theorem dX12_reach_118 : decode cX12_reach 118 = .ok (.goto (-76), 3) := by decide +kernel
theorem dX12_reach_121 : decode cX12_reach 121 = .ok (.iinc 4 1, 3) := by decide +kernel
theorem dX12_reach_124 : decode cX12_reach 124 = .ok (.goto (-92), 3) := by decide +kernel
theorem dX12_reach_127 : decode cX12_reach 127 = .ok (.return_, 1) := by decide +kernel
theorem dX12_fewest_0 : decode cX12_fewest 0 = .ok (.iload_n 2, 1) := by decide +kernel
theorem dX12_fewest_1 : decode cX12_fewest 1 = .ok (.iconst 1, 1) := by decide +kernel
theorem dX12_fewest_2 : decode cX12_fewest 2 = .ok (.if_icmp .lt 12, 3) := by decide +kernel
theorem dX12_fewest_5 : decode cX12_fewest 5 = .ok (.iload_n 2, 1) := by decide +kernel
theorem dX12_fewest_6 : decode cX12_fewest 6 = .ok (.iload_n 1, 1) := by decide +kernel
theorem dX12_fewest_7 : decode cX12_fewest 7 = .ok (.if_icmp .ge 7, 3) := by decide +kernel
theorem dX12_fewest_10 : decode cX12_fewest 10 = .ok (.iconst 1, 1) := by decide +kernel
theorem dX12_fewest_11 : decode cX12_fewest 11 = .ok (.goto 5, 3) := by decide +kernel
theorem dX12_fewest_14 : decode cX12_fewest 14 = .ok (.bipush 13, 2) := by decide +kernel
theorem dX12_fewest_16 : decode cX12_fewest 16 = .ok (.istore_n 3, 1) := by decide +kernel
theorem dX12_fewest_17 : decode cX12_fewest 17 = .ok (.iload_n 3, 1) := by decide +kernel
theorem dX12_fewest_18 : decode cX12_fewest 18 = .ok (.bipush 12, 2) := by decide +kernel
theorem dX12_fewest_20 : decode cX12_fewest 20 = .ok (.if_icmp .gt 19, 3) := by decide +kernel
theorem dX12_fewest_23 : decode cX12_fewest 23 = .ok (.aload_n 0, 1) := by decide +kernel
theorem dX12_fewest_24 : decode cX12_fewest 24 = .ok (.iload_n 1, 1) := by decide +kernel
theorem dX12_fewest_25 : decode cX12_fewest 25 = .ok (.iload_n 3, 1) := by decide +kernel
theorem dX12_fewest_26 : decode cX12_fewest 26 = .ok (.imul, 1) := by decide +kernel
theorem dX12_fewest_27 : decode cX12_fewest 27 = .ok (.iload_n 2, 1) := by decide +kernel
theorem dX12_fewest_28 : decode cX12_fewest 28 = .ok (.iadd, 1) := by decide +kernel
theorem dX12_fewest_29 : decode cX12_fewest 29 = .ok (.baload, 1) := by decide +kernel
theorem dX12_fewest_30 : decode cX12_fewest 30 = .ok (.ifCond .ne 9, 3) := by decide +kernel
theorem dX12_fewest_33 : decode cX12_fewest 33 = .ok (.iinc 3 1, 3) := by decide +kernel
theorem dX12_fewest_36 : decode cX12_fewest 36 = .ok (.goto (-19), 3) := by decide +kernel
theorem dX12_fewest_39 : decode cX12_fewest 39 = .ok (.iload_n 3, 1) := by decide +kernel
theorem dX12_fewest_40 : decode cX12_fewest 40 = .ok (.bipush 12, 2) := by decide +kernel
theorem dX12_fewest_42 : decode cX12_fewest 42 = .ok (.if_icmp .le 7, 3) := by decide +kernel
theorem dX12_fewest_45 : decode cX12_fewest 45 = .ok (.iconst 0, 1) := by decide +kernel
theorem dX12_fewest_46 : decode cX12_fewest 46 = .ok (.goto 4, 3) := by decide +kernel
theorem dX12_fewest_49 : decode cX12_fewest 49 = .ok (.iload_n 3, 1) := by decide +kernel
theorem dX12_fewest_50 : decode cX12_fewest 50 = .ok (.ireturn, 1) := by decide +kernel
theorem dX12_firstPiece_0 : decode cX12_firstPiece 0 = .ok (.iconst 0, 1) := by decide +kernel
theorem dX12_firstPiece_1 : decode cX12_firstPiece 1 = .ok (.istore 5, 2) := by decide +kernel
theorem dX12_firstPiece_3 : decode cX12_firstPiece 3 = .ok (.aload_n 2, 1) := by decide +kernel
theorem dX12_firstPiece_4 : decode cX12_firstPiece 4 = .ok (.iload 5, 2) := by decide +kernel
theorem dX12_firstPiece_6 : decode cX12_firstPiece 6 = .ok (.iaload, 1) := by decide +kernel
theorem dX12_firstPiece_7 : decode cX12_firstPiece 7 = .ok (.iload 4, 2) := by decide +kernel
theorem dX12_firstPiece_9 : decode cX12_firstPiece 9 = .ok (.if_icmp .gt 21, 3) := by decide +kernel
theorem dX12_firstPiece_12 : decode cX12_firstPiece 12 = .ok (.aload_n 0, 1) := by decide +kernel
theorem dX12_firstPiece_13 : decode cX12_firstPiece 13 = .ok (.iload_n 1, 1) := by decide +kernel
theorem dX12_firstPiece_14 : decode cX12_firstPiece 14 = .ok (.iload_n 3, 1) := by decide +kernel
theorem dX12_firstPiece_15 : decode cX12_firstPiece 15 = .ok (.iconst 1, 1) := by decide +kernel
theorem dX12_firstPiece_16 : decode cX12_firstPiece 16 = .ok (.isub, 1) := by decide +kernel
theorem dX12_firstPiece_17 : decode cX12_firstPiece 17 = .ok (.imul, 1) := by decide +kernel
theorem dX12_firstPiece_18 : decode cX12_firstPiece 18 = .ok (.iload 4, 2) := by decide +kernel
theorem dX12_firstPiece_20 : decode cX12_firstPiece 20 = .ok (.iadd, 1) := by decide +kernel
theorem dX12_firstPiece_21 : decode cX12_firstPiece 21 = .ok (.aload_n 2, 1) := by decide +kernel
theorem dX12_firstPiece_22 : decode cX12_firstPiece 22 = .ok (.iload 5, 2) := by decide +kernel
theorem dX12_firstPiece_24 : decode cX12_firstPiece 24 = .ok (.iaload, 1) := by decide +kernel
theorem dX12_firstPiece_25 : decode cX12_firstPiece 25 = .ok (.isub, 1) := by decide +kernel
theorem dX12_firstPiece_26 : decode cX12_firstPiece 26 = .ok (.baload, 1) := by decide +kernel
theorem dX12_firstPiece_27 : decode cX12_firstPiece 27 = .ok (.ifCond .ne 9, 3) := by decide +kernel
theorem dX12_firstPiece_30 : decode cX12_firstPiece 30 = .ok (.iinc 5 1, 3) := by decide +kernel
theorem dX12_firstPiece_33 : decode cX12_firstPiece 33 = .ok (.goto (-30), 3) := by decide +kernel
theorem dX12_firstPiece_36 : decode cX12_firstPiece 36 = .ok (.iload 5, 2) := by decide +kernel
theorem dX12_firstPiece_38 : decode cX12_firstPiece 38 = .ok (.ireturn, 1) := by decide +kernel
theorem dX12_clip_0 : decode cX12_clip 0 = .ok (.iload_n 1, 1) := by decide +kernel
theorem dX12_clip_1 : decode cX12_clip 1 = .ok (.i2l, 1) := by decide +kernel
theorem dX12_clip_2 : decode cX12_clip 2 = .ok (.lconst 1, 1) := by decide +kernel
theorem dX12_clip_3 : decode cX12_clip 3 = .ok (.ldc2_w 291, 3) := by decide +kernel
theorem dX12_clip_6 : decode cX12_clip 6 = .ok (.invokestatic 287, 3) := by decide +kernel
theorem dX12_clip_9 : decode cX12_clip 9 = .ok (.ifCond .eq 15, 3) := by decide +kernel
theorem dX12_clip_12 : decode cX12_clip 12 = .ok (.iload_n 2, 1) := by decide +kernel
theorem dX12_clip_13 : decode cX12_clip 13 = .ok (.i2l, 1) := by decide +kernel
theorem dX12_clip_14 : decode cX12_clip 14 = .ok (.lconst 1, 1) := by decide +kernel
theorem dX12_clip_15 : decode cX12_clip 15 = .ok (.ldc2_w 293, 3) := by decide +kernel
theorem dX12_clip_18 : decode cX12_clip 18 = .ok (.invokestatic 287, 3) := by decide +kernel
theorem dX12_clip_21 : decode cX12_clip 21 = .ok (.ifCond .ne 6, 3) := by decide +kernel
theorem dX12_clip_24 : decode cX12_clip 24 = .ok (.bipush (-2), 2) := by decide +kernel
theorem dX12_clip_26 : decode cX12_clip 26 = .ok (.ireturn, 1) := by decide +kernel
theorem dX12_clip_27 : decode cX12_clip 27 = .ok (.aload_n 0, 1) := by decide +kernel
theorem dX12_clip_28 : decode cX12_clip 28 = .ok (.getfield 295, 3) := by decide +kernel
theorem dX12_clip_31 : decode cX12_clip 31 = .ok (.bipush 16, 2) := by decide +kernel
theorem dX12_clip_33 : decode cX12_clip 33 = .ok (.if_icmp .ne 6, 3) := by decide +kernel
theorem dX12_clip_36 : decode cX12_clip 36 = .ok (.bipush (-3), 2) := by decide +kernel
theorem dX12_clip_38 : decode cX12_clip 38 = .ok (.ireturn, 1) := by decide +kernel
theorem dX12_clip_39 : decode cX12_clip 39 = .ok (.aload_n 0, 1) := by decide +kernel
theorem dX12_clip_40 : decode cX12_clip 40 = .ok (.getfield 7, 3) := by decide +kernel
theorem dX12_clip_43 : decode cX12_clip 43 = .ok (.aload_n 0, 1) := by decide +kernel
theorem dX12_clip_44 : decode cX12_clip 44 = .ok (.getfield 295, 3) := by decide +kernel
theorem dX12_clip_47 : decode cX12_clip 47 = .ok (.iload_n 1, 1) := by decide +kernel
theorem dX12_clip_48 : decode cX12_clip 48 = .ok (.iastore, 1) := by decide +kernel
theorem dX12_clip_49 : decode cX12_clip 49 = .ok (.aload_n 0, 1) := by decide +kernel
theorem dX12_clip_50 : decode cX12_clip 50 = .ok (.getfield 13, 3) := by decide +kernel
theorem dX12_clip_53 : decode cX12_clip 53 = .ok (.aload_n 0, 1) := by decide +kernel
theorem dX12_clip_54 : decode cX12_clip 54 = .ok (.getfield 295, 3) := by decide +kernel
theorem dX12_clip_57 : decode cX12_clip 57 = .ok (.iload_n 2, 1) := by decide +kernel
theorem dX12_clip_58 : decode cX12_clip 58 = .ok (.iastore, 1) := by decide +kernel
theorem dX12_clip_59 : decode cX12_clip 59 = .ok (.aload_n 0, 1) := by decide +kernel
theorem dX12_clip_60 : decode cX12_clip 60 = .ok (.dup, 1) := by decide +kernel
theorem dX12_clip_61 : decode cX12_clip 61 = .ok (.getfield 295, 3) := by decide +kernel
theorem dX12_clip_64 : decode cX12_clip 64 = .ok (.dup_x1, 1) := by decide +kernel
theorem dX12_clip_65 : decode cX12_clip 65 = .ok (.iconst 1, 1) := by decide +kernel
theorem dX12_clip_66 : decode cX12_clip 66 = .ok (.iadd, 1) := by decide +kernel
theorem dX12_clip_67 : decode cX12_clip 67 = .ok (.putfield 295, 3) := by decide +kernel
theorem dX12_clip_70 : decode cX12_clip 70 = .ok (.ireturn, 1) := by decide +kernel
theorem dX12_fill_0 : decode cX12_fill 0 = .ok (.iload_n 1, 1) := by decide +kernel
theorem dX12_fill_1 : decode cX12_fill 1 = .ok (.i2l, 1) := by decide +kernel
theorem dX12_fill_2 : decode cX12_fill 2 = .ok (.lconst 0, 1) := by decide +kernel
theorem dX12_fill_3 : decode cX12_fill 3 = .ok (.aload_n 0, 1) := by decide +kernel
theorem dX12_fill_4 : decode cX12_fill 4 = .ok (.getfield 295, 3) := by decide +kernel
theorem dX12_fill_7 : decode cX12_fill 7 = .ok (.iconst 1, 1) := by decide +kernel
theorem dX12_fill_8 : decode cX12_fill 8 = .ok (.isub, 1) := by decide +kernel
theorem dX12_fill_9 : decode cX12_fill 9 = .ok (.i2l, 1) := by decide +kernel
theorem dX12_fill_10 : decode cX12_fill 10 = .ok (.invokestatic 287, 3) := by decide +kernel
theorem dX12_fill_13 : decode cX12_fill 13 = .ok (.ifCond .ne 6, 3) := by decide +kernel
theorem dX12_fill_16 : decode cX12_fill 16 = .ok (.bipush (-2), 2) := by decide +kernel
theorem dX12_fill_18 : decode cX12_fill 18 = .ok (.ireturn, 1) := by decide +kernel
theorem dX12_fill_19 : decode cX12_fill 19 = .ok (.aload_n 0, 1) := by decide +kernel
theorem dX12_fill_20 : decode cX12_fill 20 = .ok (.getfield 298, 3) := by decide +kernel
theorem dX12_fill_23 : decode cX12_fill 23 = .ok (.bipush 6, 2) := by decide +kernel
theorem dX12_fill_25 : decode cX12_fill 25 = .ok (.if_icmp .ne 6, 3) := by decide +kernel
theorem dX12_fill_28 : decode cX12_fill 28 = .ok (.bipush (-3), 2) := by decide +kernel
theorem dX12_fill_30 : decode cX12_fill 30 = .ok (.ireturn, 1) := by decide +kernel
theorem dX12_fill_31 : decode cX12_fill 31 = .ok (.aload_n 0, 1) := by decide +kernel
theorem dX12_fill_32 : decode cX12_fill 32 = .ok (.getfield 16, 3) := by decide +kernel
theorem dX12_fill_35 : decode cX12_fill 35 = .ok (.aload_n 0, 1) := by decide +kernel
theorem dX12_fill_36 : decode cX12_fill 36 = .ok (.getfield 298, 3) := by decide +kernel
theorem dX12_fill_39 : decode cX12_fill 39 = .ok (.iload_n 1, 1) := by decide +kernel
theorem dX12_fill_40 : decode cX12_fill 40 = .ok (.iastore, 1) := by decide +kernel
theorem dX12_fill_41 : decode cX12_fill 41 = .ok (.aload_n 0, 1) := by decide +kernel
theorem dX12_fill_42 : decode cX12_fill 42 = .ok (.getfield 19, 3) := by decide +kernel
theorem dX12_fill_45 : decode cX12_fill 45 = .ok (.aload_n 0, 1) := by decide +kernel
theorem dX12_fill_46 : decode cX12_fill 46 = .ok (.dup, 1) := by decide +kernel
theorem dX12_fill_47 : decode cX12_fill 47 = .ok (.getfield 298, 3) := by decide +kernel
theorem dX12_fill_50 : decode cX12_fill 50 = .ok (.dup_x1, 1) := by decide +kernel
theorem dX12_fill_51 : decode cX12_fill 51 = .ok (.iconst 1, 1) := by decide +kernel
theorem dX12_fill_52 : decode cX12_fill 52 = .ok (.iadd, 1) := by decide +kernel
theorem dX12_fill_53 : decode cX12_fill 53 = .ok (.putfield 298, 3) := by decide +kernel
theorem dX12_fill_56 : decode cX12_fill 56 = .ok (.aload_n 0, 1) := by decide +kernel
theorem dX12_fill_57 : decode cX12_fill 57 = .ok (.getfield 7, 3) := by decide +kernel
theorem dX12_fill_60 : decode cX12_fill 60 = .ok (.iload_n 1, 1) := by decide +kernel
theorem dX12_fill_61 : decode cX12_fill 61 = .ok (.iaload, 1) := by decide +kernel
theorem dX12_fill_62 : decode cX12_fill 62 = .ok (.iastore, 1) := by decide +kernel
theorem dX12_fill_63 : decode cX12_fill 63 = .ok (.aload_n 0, 1) := by decide +kernel
theorem dX12_fill_64 : decode cX12_fill 64 = .ok (.getfield 26, 3) := by decide +kernel
theorem dX12_fill_67 : decode cX12_fill 67 = .ok (.sipush 3001, 3) := by decide +kernel
theorem dX12_fill_70 : decode cX12_fill 70 = .ok (.aload_n 0, 1) := by decide +kernel
theorem dX12_fill_71 : decode cX12_fill 71 = .ok (.getfield 19, 3) := by decide +kernel
theorem dX12_fill_74 : decode cX12_fill 74 = .ok (.aload_n 0, 1) := by decide +kernel
theorem dX12_fill_75 : decode cX12_fill 75 = .ok (.getfield 298, 3) := by decide +kernel
theorem dX12_fill_78 : decode cX12_fill 78 = .ok (.invokestatic 301, 3) := by decide +kernel
theorem dX12_fill_81 : decode cX12_fill 81 = .ok (.aload_n 0, 1) := by decide +kernel
theorem dX12_fill_82 : decode cX12_fill 82 = .ok (.getfield 298, 3) := by decide +kernel
theorem dX12_fill_85 : decode cX12_fill 85 = .ok (.ireturn, 1) := by decide +kernel
theorem dX12_local_0 : decode cX12_local 0 = .ok (.iload_n 1, 1) := by decide +kernel
theorem dX12_local_1 : decode cX12_local 1 = .ok (.i2l, 1) := by decide +kernel
theorem dX12_local_2 : decode cX12_local 2 = .ok (.lconst 1, 1) := by decide +kernel
theorem dX12_local_3 : decode cX12_local 3 = .ok (.ldc2_w 291, 3) := by decide +kernel
theorem dX12_local_6 : decode cX12_local 6 = .ok (.invokestatic 287, 3) := by decide +kernel
theorem dX12_local_9 : decode cX12_local 9 = .ok (.ifCond .ne 6, 3) := by decide +kernel
theorem dX12_local_12 : decode cX12_local 12 = .ok (.bipush (-2), 2) := by decide +kernel
theorem dX12_local_14 : decode cX12_local 14 = .ok (.ireturn, 1) := by decide +kernel
theorem dX12_local_15 : decode cX12_local 15 = .ok (.aload_n 0, 1) := by decide +kernel
theorem dX12_local_16 : decode cX12_local 16 = .ok (.getfield 305, 3) := by decide +kernel
theorem dX12_local_19 : decode cX12_local 19 = .ok (.bipush 6, 2) := by decide +kernel
theorem dX12_local_21 : decode cX12_local 21 = .ok (.if_icmp .ne 6, 3) := by decide +kernel
theorem dX12_local_24 : decode cX12_local 24 = .ok (.bipush (-3), 2) := by decide +kernel
theorem dX12_local_26 : decode cX12_local 26 = .ok (.ireturn, 1) := by decide +kernel
theorem dX12_local_27 : decode cX12_local 27 = .ok (.aload_n 0, 1) := by decide +kernel
theorem dX12_local_28 : decode cX12_local 28 = .ok (.getfield 22, 3) := by decide +kernel
theorem dX12_local_31 : decode cX12_local 31 = .ok (.aload_n 0, 1) := by decide +kernel
theorem dX12_local_32 : decode cX12_local 32 = .ok (.dup, 1) := by decide +kernel
theorem dX12_local_33 : decode cX12_local 33 = .ok (.getfield 305, 3) := by decide +kernel
theorem dX12_local_36 : decode cX12_local 36 = .ok (.dup_x1, 1) := by decide +kernel
theorem dX12_local_37 : decode cX12_local 37 = .ok (.iconst 1, 1) := by decide +kernel
theorem dX12_local_38 : decode cX12_local 38 = .ok (.iadd, 1) := by decide +kernel
theorem dX12_local_39 : decode cX12_local 39 = .ok (.putfield 305, 3) := by decide +kernel
theorem dX12_local_42 : decode cX12_local 42 = .ok (.iload_n 1, 1) := by decide +kernel
theorem dX12_local_43 : decode cX12_local 43 = .ok (.iastore, 1) := by decide +kernel
theorem dX12_local_44 : decode cX12_local 44 = .ok (.aload_n 0, 1) := by decide +kernel
theorem dX12_local_45 : decode cX12_local 45 = .ok (.getfield 31, 3) := by decide +kernel
theorem dX12_local_48 : decode cX12_local 48 = .ok (.sipush 12001, 3) := by decide +kernel
theorem dX12_local_51 : decode cX12_local 51 = .ok (.aload_n 0, 1) := by decide +kernel
theorem dX12_local_52 : decode cX12_local 52 = .ok (.getfield 22, 3) := by decide +kernel
theorem dX12_local_55 : decode cX12_local 55 = .ok (.aload_n 0, 1) := by decide +kernel
theorem dX12_local_56 : decode cX12_local 56 = .ok (.getfield 305, 3) := by decide +kernel
theorem dX12_local_59 : decode cX12_local 59 = .ok (.invokestatic 301, 3) := by decide +kernel
theorem dX12_local_62 : decode cX12_local 62 = .ok (.aload_n 0, 1) := by decide +kernel
theorem dX12_local_63 : decode cX12_local 63 = .ok (.getfield 305, 3) := by decide +kernel
theorem dX12_local_66 : decode cX12_local 66 = .ok (.ireturn, 1) := by decide +kernel
theorem dX12_isEvent_0 : decode cX12_isEvent 0 = .ok (.iload_n 1, 1) := by decide +kernel
theorem dX12_isEvent_1 : decode cX12_isEvent 1 = .ok (.invokestatic 308, 3) := by decide +kernel
theorem dX12_isEvent_4 : decode cX12_isEvent 4 = .ok (.ifCond .eq 25, 3) := by decide +kernel
theorem dX12_isEvent_7 : decode cX12_isEvent 7 = .ok (.iload_n 2, 1) := by decide +kernel
theorem dX12_isEvent_8 : decode cX12_isEvent 8 = .ok (.i2l, 1) := by decide +kernel
theorem dX12_isEvent_9 : decode cX12_isEvent 9 = .ok (.lconst 0, 1) := by decide +kernel
theorem dX12_isEvent_10 : decode cX12_isEvent 10 = .ok (.aload_n 0, 1) := by decide +kernel
theorem dX12_isEvent_11 : decode cX12_isEvent 11 = .ok (.getfield 34, 3) := by decide +kernel
theorem dX12_isEvent_14 : decode cX12_isEvent 14 = .ok (.iload_n 1, 1) := by decide +kernel
theorem dX12_isEvent_15 : decode cX12_isEvent 15 = .ok (.iaload, 1) := by decide +kernel
theorem dX12_isEvent_16 : decode cX12_isEvent 16 = .ok (.iconst 1, 1) := by decide +kernel
theorem dX12_isEvent_17 : decode cX12_isEvent 17 = .ok (.isub, 1) := by decide +kernel
theorem dX12_isEvent_18 : decode cX12_isEvent 18 = .ok (.i2l, 1) := by decide +kernel
theorem dX12_isEvent_19 : decode cX12_isEvent 19 = .ok (.invokestatic 287, 3) := by decide +kernel
theorem dX12_isEvent_22 : decode cX12_isEvent 22 = .ok (.ifCond .eq 7, 3) := by decide +kernel
theorem dX12_isEvent_25 : decode cX12_isEvent 25 = .ok (.iconst 1, 1) := by decide +kernel
theorem dX12_isEvent_26 : decode cX12_isEvent 26 = .ok (.goto 4, 3) := by decide +kernel
theorem dX12_isEvent_29 : decode cX12_isEvent 29 = .ok (.iconst 0, 1) := by decide +kernel
theorem dX12_isEvent_30 : decode cX12_isEvent 30 = .ok (.ireturn, 1) := by decide +kernel
theorem dX12_event_0 : decode cX12_event 0 = .ok (.iload_n 1, 1) := by decide +kernel
theorem dX12_event_1 : decode cX12_event 1 = .ok (.invokestatic 308, 3) := by decide +kernel
theorem dX12_event_4 : decode cX12_event 4 = .ok (.ifCond .eq 45, 3) := by decide +kernel
theorem dX12_event_7 : decode cX12_event 7 = .ok (.iload_n 2, 1) := by decide +kernel
theorem dX12_event_8 : decode cX12_event 8 = .ok (.i2l, 1) := by decide +kernel
theorem dX12_event_9 : decode cX12_event 9 = .ok (.lconst 0, 1) := by decide +kernel
theorem dX12_event_10 : decode cX12_event 10 = .ok (.ldc2_w 312, 3) := by decide +kernel
theorem dX12_event_13 : decode cX12_event 13 = .ok (.invokestatic 287, 3) := by decide +kernel
theorem dX12_event_16 : decode cX12_event 16 = .ok (.ifCond .eq 33, 3) := by decide +kernel
theorem dX12_event_19 : decode cX12_event 19 = .ok (.iload 4, 2) := by decide +kernel
theorem dX12_event_21 : decode cX12_event 21 = .ok (.i2l, 1) := by decide +kernel
theorem dX12_event_22 : decode cX12_event 22 = .ok (.lconst 0, 1) := by decide +kernel
theorem dX12_event_23 : decode cX12_event 23 = .ok (.aload_n 0, 1) := by decide +kernel
theorem dX12_event_24 : decode cX12_event 24 = .ok (.getfield 295, 3) := by decide +kernel
theorem dX12_event_27 : decode cX12_event 27 = .ok (.iconst 1, 1) := by decide +kernel
theorem dX12_event_28 : decode cX12_event 28 = .ok (.isub, 1) := by decide +kernel
theorem dX12_event_29 : decode cX12_event 29 = .ok (.i2l, 1) := by decide +kernel
theorem dX12_event_30 : decode cX12_event 30 = .ok (.invokestatic 287, 3) := by decide +kernel
theorem dX12_event_33 : decode cX12_event 33 = .ok (.ifCond .eq 16, 3) := by decide +kernel
theorem dX12_event_36 : decode cX12_event 36 = .ok (.iload 5, 2) := by decide +kernel
theorem dX12_event_38 : decode cX12_event 38 = .ok (.i2l, 1) := by decide +kernel
theorem dX12_event_39 : decode cX12_event 39 = .ok (.lconst 1, 1) := by decide +kernel
theorem dX12_event_40 : decode cX12_event 40 = .ok (.ldc2_w 291, 3) := by decide +kernel
theorem dX12_event_43 : decode cX12_event 43 = .ok (.invokestatic 287, 3) := by decide +kernel
theorem dX12_event_46 : decode cX12_event 46 = .ok (.ifCond .ne 6, 3) := by decide +kernel
theorem dX12_event_49 : decode cX12_event 49 = .ok (.bipush (-2), 2) := by decide +kernel
theorem dX12_event_51 : decode cX12_event 51 = .ok (.ireturn, 1) := by decide +kernel
theorem dX12_event_52 : decode cX12_event 52 = .ok (.iload_n 2, 1) := by decide +kernel
theorem dX12_event_53 : decode cX12_event 53 = .ok (.iconst 1, 1) := by decide +kernel
theorem dX12_event_54 : decode cX12_event 54 = .ok (.if_icmp .eq 7, 3) := by decide +kernel
theorem dX12_event_57 : decode cX12_event 57 = .ok (.iload_n 3, 1) := by decide +kernel
theorem dX12_event_58 : decode cX12_event 58 = .ok (.ifCond .ne 24, 3) := by decide +kernel
theorem dX12_event_61 : decode cX12_event 61 = .ok (.iload_n 2, 1) := by decide +kernel
theorem dX12_event_62 : decode cX12_event 62 = .ok (.iconst 1, 1) := by decide +kernel
theorem dX12_event_63 : decode cX12_event 63 = .ok (.if_icmp .ne 22, 3) := by decide +kernel
theorem dX12_event_66 : decode cX12_event 66 = .ok (.iload_n 3, 1) := by decide +kernel
theorem dX12_event_67 : decode cX12_event 67 = .ok (.i2l, 1) := by decide +kernel
theorem dX12_event_68 : decode cX12_event 68 = .ok (.aload_n 0, 1) := by decide +kernel
theorem dX12_event_69 : decode cX12_event 69 = .ok (.getfield 314, 3) := by decide +kernel
theorem dX12_event_72 : decode cX12_event 72 = .ok (.i2l, 1) := by decide +kernel
theorem dX12_event_73 : decode cX12_event 73 = .ok (.ldc2_w 317, 3) := by decide +kernel
theorem dX12_event_76 : decode cX12_event 76 = .ok (.invokestatic 287, 3) := by decide +kernel
theorem dX12_event_79 : decode cX12_event 79 = .ok (.ifCond .ne 6, 3) := by decide +kernel
theorem dX12_event_82 : decode cX12_event 82 = .ok (.bipush (-2), 2) := by decide +kernel
theorem dX12_event_84 : decode cX12_event 84 = .ok (.ireturn, 1) := by decide +kernel
theorem dX12_event_85 : decode cX12_event 85 = .ok (.iconst 0, 1) := by decide +kernel
theorem dX12_event_86 : decode cX12_event 86 = .ok (.istore 6, 2) := by decide +kernel
theorem dX12_event_88 : decode cX12_event 88 = .ok (.iload 6, 2) := by decide +kernel
theorem dX12_event_90 : decode cX12_event 90 = .ok (.aload_n 0, 1) := by decide +kernel
theorem dX12_event_91 : decode cX12_event 91 = .ok (.getfield 34, 3) := by decide +kernel
theorem dX12_event_94 : decode cX12_event 94 = .ok (.iload_n 1, 1) := by decide +kernel
theorem dX12_event_95 : decode cX12_event 95 = .ok (.iaload, 1) := by decide +kernel
theorem dX12_event_96 : decode cX12_event 96 = .ok (.if_icmp .ge 49, 3) := by decide +kernel
theorem dX12_event_99 : decode cX12_event 99 = .ok (.iload_n 2, 1) := by decide +kernel
theorem dX12_event_100 : decode cX12_event 100 = .ok (.iconst 1, 1) := by decide +kernel
theorem dX12_event_101 : decode cX12_event 101 = .ok (.if_icmp .ne 44, 3) := by decide +kernel
theorem dX12_event_104 : decode cX12_event 104 = .ok (.aload_n 0, 1) := by decide +kernel
theorem dX12_event_105 : decode cX12_event 105 = .ok (.getfield 37, 3) := by decide +kernel
theorem dX12_event_108 : decode cX12_event 108 = .ok (.bipush 60, 2) := by decide +kernel
theorem dX12_event_110 : decode cX12_event 110 = .ok (.iload_n 1, 1) := by decide +kernel
theorem dX12_event_111 : decode cX12_event 111 = .ok (.imul, 1) := by decide +kernel
theorem dX12_event_112 : decode cX12_event 112 = .ok (.iload 6, 2) := by decide +kernel
theorem dX12_event_114 : decode cX12_event 114 = .ok (.iadd, 1) := by decide +kernel
theorem dX12_event_115 : decode cX12_event 115 = .ok (.iaload, 1) := by decide +kernel
theorem dX12_event_116 : decode cX12_event 116 = .ok (.iconst 1, 1) := by decide +kernel
theorem dX12_event_117 : decode cX12_event 117 = .ok (.if_icmp .ne 22, 3) := by decide +kernel
theorem dX12_event_120 : decode cX12_event 120 = .ok (.aload_n 0, 1) := by decide +kernel
theorem dX12_event_121 : decode cX12_event 121 = .ok (.getfield 40, 3) := by decide +kernel
theorem dX12_event_124 : decode cX12_event 124 = .ok (.bipush 60, 2) := by decide +kernel
theorem dX12_event_126 : decode cX12_event 126 = .ok (.iload_n 1, 1) := by decide +kernel
theorem dX12_event_127 : decode cX12_event 127 = .ok (.imul, 1) := by decide +kernel
theorem dX12_event_128 : decode cX12_event 128 = .ok (.iload 6, 2) := by decide +kernel
theorem dX12_event_130 : decode cX12_event 130 = .ok (.iadd, 1) := by decide +kernel
theorem dX12_event_131 : decode cX12_event 131 = .ok (.iaload, 1) := by decide +kernel
theorem dX12_event_132 : decode cX12_event 132 = .ok (.iload_n 3, 1) := by decide +kernel
theorem dX12_event_133 : decode cX12_event 133 = .ok (.if_icmp .lt 6, 3) := by decide +kernel
theorem dX12_event_136 : decode cX12_event 136 = .ok (.bipush (-2), 2) := by decide +kernel
theorem dX12_event_138 : decode cX12_event 138 = .ok (.ireturn, 1) := by decide +kernel
theorem dX12_event_139 : decode cX12_event 139 = .ok (.iinc 6 1, 3) := by decide +kernel
theorem dX12_event_142 : decode cX12_event 142 = .ok (.goto (-54), 3) := by decide +kernel
theorem dX12_event_145 : decode cX12_event 145 = .ok (.aload_n 0, 1) := by decide +kernel
theorem dX12_event_146 : decode cX12_event 146 = .ok (.getfield 34, 3) := by decide +kernel
theorem dX12_event_149 : decode cX12_event 149 = .ok (.iload_n 1, 1) := by decide +kernel
theorem dX12_event_150 : decode cX12_event 150 = .ok (.iaload, 1) := by decide +kernel
theorem dX12_event_151 : decode cX12_event 151 = .ok (.bipush 60, 2) := by decide +kernel
theorem dX12_event_153 : decode cX12_event 153 = .ok (.if_icmp .ne 6, 3) := by decide +kernel
theorem dX12_event_156 : decode cX12_event 156 = .ok (.bipush (-3), 2) := by decide +kernel
theorem dX12_event_158 : decode cX12_event 158 = .ok (.ireturn, 1) := by decide +kernel
theorem dX12_event_159 : decode cX12_event 159 = .ok (.bipush 60, 2) := by decide +kernel
theorem dX12_event_161 : decode cX12_event 161 = .ok (.iload_n 1, 1) := by decide +kernel
theorem dX12_event_162 : decode cX12_event 162 = .ok (.imul, 1) := by decide +kernel
theorem dX12_event_163 : decode cX12_event 163 = .ok (.aload_n 0, 1) := by decide +kernel
theorem dX12_event_164 : decode cX12_event 164 = .ok (.getfield 34, 3) := by decide +kernel
theorem dX12_event_167 : decode cX12_event 167 = .ok (.iload_n 1, 1) := by decide +kernel
theorem dX12_event_168 : decode cX12_event 168 = .ok (.iaload, 1) := by decide +kernel
theorem dX12_event_169 : decode cX12_event 169 = .ok (.iadd, 1) := by decide +kernel
theorem dX12_event_170 : decode cX12_event 170 = .ok (.istore 6, 2) := by decide +kernel
theorem dX12_event_172 : decode cX12_event 172 = .ok (.aload_n 0, 1) := by decide +kernel
theorem dX12_event_173 : decode cX12_event 173 = .ok (.getfield 37, 3) := by decide +kernel
theorem dX12_event_176 : decode cX12_event 176 = .ok (.iload 6, 2) := by decide +kernel
theorem dX12_event_178 : decode cX12_event 178 = .ok (.iload_n 2, 1) := by decide +kernel
theorem dX12_event_179 : decode cX12_event 179 = .ok (.iastore, 1) := by decide +kernel
theorem dX12_event_180 : decode cX12_event 180 = .ok (.aload_n 0, 1) := by decide +kernel
theorem dX12_event_181 : decode cX12_event 181 = .ok (.getfield 40, 3) := by decide +kernel
theorem dX12_event_184 : decode cX12_event 184 = .ok (.iload 6, 2) := by decide +kernel
theorem dX12_event_186 : decode cX12_event 186 = .ok (.iload_n 3, 1) := by decide +kernel
theorem dX12_event_187 : decode cX12_event 187 = .ok (.iastore, 1) := by decide +kernel
theorem dX12_event_188 : decode cX12_event 188 = .ok (.aload_n 0, 1) := by decide +kernel
theorem dX12_event_189 : decode cX12_event 189 = .ok (.getfield 43, 3) := by decide +kernel
theorem dX12_event_192 : decode cX12_event 192 = .ok (.iload 6, 2) := by decide +kernel
theorem dX12_event_194 : decode cX12_event 194 = .ok (.iload 4, 2) := by decide +kernel
theorem dX12_event_196 : decode cX12_event 196 = .ok (.iastore, 1) := by decide +kernel
theorem dX12_event_197 : decode cX12_event 197 = .ok (.aload_n 0, 1) := by decide +kernel
theorem dX12_event_198 : decode cX12_event 198 = .ok (.getfield 46, 3) := by decide +kernel
theorem dX12_event_201 : decode cX12_event 201 = .ok (.iload 6, 2) := by decide +kernel
theorem dX12_event_203 : decode cX12_event 203 = .ok (.iload 5, 2) := by decide +kernel
theorem dX12_event_205 : decode cX12_event 205 = .ok (.iastore, 1) := by decide +kernel
theorem dX12_event_206 : decode cX12_event 206 = .ok (.aload_n 0, 1) := by decide +kernel
theorem dX12_event_207 : decode cX12_event 207 = .ok (.getfield 49, 3) := by decide +kernel
theorem dX12_event_210 : decode cX12_event 210 = .ok (.iload 6, 2) := by decide +kernel
theorem dX12_event_212 : decode cX12_event 212 = .ok (.iconst 0, 1) := by decide +kernel
theorem dX12_event_213 : decode cX12_event 213 = .ok (.iastore, 1) := by decide +kernel
theorem dX12_event_214 : decode cX12_event 214 = .ok (.aload_n 0, 1) := by decide +kernel
theorem dX12_event_215 : decode cX12_event 215 = .ok (.getfield 52, 3) := by decide +kernel
theorem dX12_event_218 : decode cX12_event 218 = .ok (.iload 6, 2) := by decide +kernel
theorem dX12_event_220 : decode cX12_event 220 = .ok (.iconst 0, 1) := by decide +kernel
theorem dX12_event_221 : decode cX12_event 221 = .ok (.iastore, 1) := by decide +kernel
theorem dX12_event_222 : decode cX12_event 222 = .ok (.aload_n 0, 1) := by decide +kernel
theorem dX12_event_223 : decode cX12_event 223 = .ok (.getfield 55, 3) := by decide +kernel
theorem dX12_event_226 : decode cX12_event 226 = .ok (.iload 6, 2) := by decide +kernel
theorem dX12_event_228 : decode cX12_event 228 = .ok (.iconst (-1), 1) := by decide +kernel
theorem dX12_event_229 : decode cX12_event 229 = .ok (.iastore, 1) := by decide +kernel
theorem dX12_event_230 : decode cX12_event 230 = .ok (.aload_n 0, 1) := by decide +kernel
theorem dX12_event_231 : decode cX12_event 231 = .ok (.getfield 34, 3) := by decide +kernel
theorem dX12_event_234 : decode cX12_event 234 = .ok (.iload_n 1, 1) := by decide +kernel
theorem dX12_event_235 : decode cX12_event 235 = .ok (.dup2, 1) := by decide +kernel
theorem dX12_event_236 : decode cX12_event 236 = .ok (.iaload, 1) := by decide +kernel
theorem dX12_event_237 : decode cX12_event 237 = .ok (.dup_x2, 1) := by decide +kernel
theorem dX12_event_238 : decode cX12_event 238 = .ok (.iconst 1, 1) := by decide +kernel
theorem dX12_event_239 : decode cX12_event 239 = .ok (.iadd, 1) := by decide +kernel
theorem dX12_event_240 : decode cX12_event 240 = .ok (.iastore, 1) := by decide +kernel
theorem dX12_event_241 : decode cX12_event 241 = .ok (.ireturn, 1) := by decide +kernel
theorem dX12_skip_0 : decode cX12_skip 0 = .ok (.aload_n 0, 1) := by decide +kernel
theorem dX12_skip_1 : decode cX12_skip 1 = .ok (.iload_n 1, 1) := by decide +kernel
theorem dX12_skip_2 : decode cX12_skip 2 = .ok (.iload_n 2, 1) := by decide +kernel
theorem dX12_skip_3 : decode cX12_skip 3 = .ok (.invokevirtual 319, 3) := by decide +kernel
theorem dX12_skip_6 : decode cX12_skip 6 = .ok (.ifCond .eq 17, 3) := by decide +kernel
theorem dX12_skip_9 : decode cX12_skip 9 = .ok (.aload_n 0, 1) := by decide +kernel
theorem dX12_skip_10 : decode cX12_skip 10 = .ok (.getfield 49, 3) := by decide +kernel
theorem dX12_skip_13 : decode cX12_skip 13 = .ok (.bipush 60, 2) := by decide +kernel
theorem dX12_skip_15 : decode cX12_skip 15 = .ok (.iload_n 1, 1) := by decide +kernel
theorem dX12_skip_16 : decode cX12_skip 16 = .ok (.imul, 1) := by decide +kernel
theorem dX12_skip_17 : decode cX12_skip 17 = .ok (.iload_n 2, 1) := by decide +kernel
theorem dX12_skip_18 : decode cX12_skip 18 = .ok (.iadd, 1) := by decide +kernel
theorem dX12_skip_19 : decode cX12_skip 19 = .ok (.iaload, 1) := by decide +kernel
theorem dX12_skip_20 : decode cX12_skip 20 = .ok (.ifCond .eq 6, 3) := by decide +kernel
theorem dX12_skip_23 : decode cX12_skip 23 = .ok (.bipush (-2), 2) := by decide +kernel
theorem dX12_skip_25 : decode cX12_skip 25 = .ok (.ireturn, 1) := by decide +kernel
theorem dX12_skip_26 : decode cX12_skip 26 = .ok (.aload_n 0, 1) := by decide +kernel
theorem dX12_skip_27 : decode cX12_skip 27 = .ok (.getfield 49, 3) := by decide +kernel
theorem dX12_skip_30 : decode cX12_skip 30 = .ok (.bipush 60, 2) := by decide +kernel
theorem dX12_skip_32 : decode cX12_skip 32 = .ok (.iload_n 1, 1) := by decide +kernel
theorem dX12_skip_33 : decode cX12_skip 33 = .ok (.imul, 1) := by decide +kernel
theorem dX12_skip_34 : decode cX12_skip 34 = .ok (.iload_n 2, 1) := by decide +kernel
theorem dX12_skip_35 : decode cX12_skip 35 = .ok (.iadd, 1) := by decide +kernel
theorem dX12_skip_36 : decode cX12_skip 36 = .ok (.iconst 4, 1) := by decide +kernel
theorem dX12_skip_37 : decode cX12_skip 37 = .ok (.iastore, 1) := by decide +kernel
theorem dX12_skip_38 : decode cX12_skip 38 = .ok (.iconst 1, 1) := by decide +kernel
theorem dX12_skip_39 : decode cX12_skip 39 = .ok (.ireturn, 1) := by decide +kernel
theorem dX12_take_0 : decode cX12_take 0 = .ok (.iload_n 1, 1) := by decide +kernel
theorem dX12_take_1 : decode cX12_take 1 = .ok (.invokestatic 308, 3) := by decide +kernel
theorem dX12_take_4 : decode cX12_take 4 = .ok (.ifCond .ne 6, 3) := by decide +kernel
theorem dX12_take_7 : decode cX12_take 7 = .ok (.bipush (-2), 2) := by decide +kernel
theorem dX12_take_9 : decode cX12_take 9 = .ok (.ireturn, 1) := by decide +kernel
theorem dX12_take_10 : decode cX12_take 10 = .ok (.aload_n 0, 1) := by decide +kernel
theorem dX12_take_11 : decode cX12_take 11 = .ok (.getfield 61, 3) := by decide +kernel
theorem dX12_take_14 : decode cX12_take 14 = .ok (.iload_n 1, 1) := by decide +kernel
theorem dX12_take_15 : decode cX12_take 15 = .ok (.iconst 1, 1) := by decide +kernel
theorem dX12_take_16 : decode cX12_take 16 = .ok (.bastore, 1) := by decide +kernel
theorem dX12_take_17 : decode cX12_take 17 = .ok (.iconst 1, 1) := by decide +kernel
