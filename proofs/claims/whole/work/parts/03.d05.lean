theorem dX12_head_81 : decode cX12_head 81 = .ok (.bipush 16, 2) := by decide +kernel
theorem dX12_head_83 : decode cX12_head 83 = .ok (.goto 4, 3) := by decide +kernel
theorem dX12_head_86 : decode cX12_head 86 = .ok (.iconst 0, 1) := by decide +kernel
theorem dX12_head_87 : decode cX12_head 87 = .ok (.iload 5, 2) := by decide +kernel
theorem dX12_head_89 : decode cX12_head 89 = .ok (.ifCond .eq 8, 3) := by decide +kernel
theorem dX12_head_92 : decode cX12_head 92 = .ok (.bipush 32, 2) := by decide +kernel
theorem dX12_head_94 : decode cX12_head 94 = .ok (.goto 4, 3) := by decide +kernel
theorem dX12_head_97 : decode cX12_head 97 = .ok (.iconst 0, 1) := by decide +kernel
theorem dX12_head_98 : decode cX12_head 98 = .ok (.iadd, 1) := by decide +kernel
theorem dX12_head_99 : decode cX12_head 99 = .ok (.aload_n 0, 1) := by decide +kernel
theorem dX12_head_100 : decode cX12_head 100 = .ok (.getfield 164, 3) := by decide +kernel
theorem dX12_head_103 : decode cX12_head 103 = .ok (.iload_n 2, 1) := by decide +kernel
theorem dX12_head_104 : decode cX12_head 104 = .ok (.iaload, 1) := by decide +kernel
theorem dX12_head_105 : decode cX12_head 105 = .ok (.iadd, 1) := by decide +kernel
theorem dX12_head_106 : decode cX12_head 106 = .ok (.iastore, 1) := by decide +kernel
theorem dX12_head_107 : decode cX12_head 107 = .ok (.iconst 4, 1) := by decide +kernel
theorem dX12_head_108 : decode cX12_head 108 = .ok (.istore 6, 2) := by decide +kernel
theorem dX12_head_110 : decode cX12_head 110 = .ok (.iload 6, 2) := by decide +kernel
theorem dX12_head_112 : decode cX12_head 112 = .ok (.sipush 188, 3) := by decide +kernel
theorem dX12_head_115 : decode cX12_head 115 = .ok (.if_icmp .ge 19, 3) := by decide +kernel
theorem dX12_head_118 : decode cX12_head 118 = .ok (.aload_n 0, 1) := by decide +kernel
theorem dX12_head_119 : decode cX12_head 119 = .ok (.getfield 161, 3) := by decide +kernel
theorem dX12_head_122 : decode cX12_head 122 = .ok (.iload 6, 2) := by decide +kernel
theorem dX12_head_124 : decode cX12_head 124 = .ok (.sipush 255, 3) := by decide +kernel
theorem dX12_head_127 : decode cX12_head 127 = .ok (.iastore, 1) := by decide +kernel
theorem dX12_head_128 : decode cX12_head 128 = .ok (.iinc 6 1, 3) := by decide +kernel
theorem dX12_head_131 : decode cX12_head 131 = .ok (.goto (-21), 3) := by decide +kernel
theorem dX12_head_134 : decode cX12_head 134 = .ok (.return_, 1) := by decide +kernel
theorem dX12_put_0 : decode cX12_put 0 = .ok (.aload_n 0, 1) := by decide +kernel
theorem dX12_put_1 : decode cX12_put 1 = .ok (.getfield 161, 3) := by decide +kernel
theorem dX12_put_4 : decode cX12_put 4 = .ok (.aload_n 0, 1) := by decide +kernel
theorem dX12_put_5 : decode cX12_put 5 = .ok (.dup, 1) := by decide +kernel
theorem dX12_put_6 : decode cX12_put 6 = .ok (.getfield 399, 3) := by decide +kernel
theorem dX12_put_9 : decode cX12_put 9 = .ok (.dup_x1, 1) := by decide +kernel
theorem dX12_put_10 : decode cX12_put 10 = .ok (.iconst 1, 1) := by decide +kernel
theorem dX12_put_11 : decode cX12_put 11 = .ok (.iadd, 1) := by decide +kernel
theorem dX12_put_12 : decode cX12_put 12 = .ok (.putfield 399, 3) := by decide +kernel
theorem dX12_put_15 : decode cX12_put 15 = .ok (.iload_n 1, 1) := by decide +kernel
theorem dX12_put_16 : decode cX12_put 16 = .ok (.sipush 255, 3) := by decide +kernel
theorem dX12_put_19 : decode cX12_put 19 = .ok (.iand, 1) := by decide +kernel
theorem dX12_put_20 : decode cX12_put 20 = .ok (.iastore, 1) := by decide +kernel
theorem dX12_put_21 : decode cX12_put 21 = .ok (.return_, 1) := by decide +kernel
theorem dX12_putTwo_0 : decode cX12_putTwo 0 = .ok (.aload_n 0, 1) := by decide +kernel
theorem dX12_putTwo_1 : decode cX12_putTwo 1 = .ok (.iload_n 1, 1) := by decide +kernel
theorem dX12_putTwo_2 : decode cX12_putTwo 2 = .ok (.bipush 8, 2) := by decide +kernel
theorem dX12_putTwo_4 : decode cX12_putTwo 4 = .ok (.ishr, 1) := by decide +kernel
theorem dX12_putTwo_5 : decode cX12_putTwo 5 = .ok (.invokevirtual 402, 3) := by decide +kernel
theorem dX12_putTwo_8 : decode cX12_putTwo 8 = .ok (.aload_n 0, 1) := by decide +kernel
theorem dX12_putTwo_9 : decode cX12_putTwo 9 = .ok (.iload_n 1, 1) := by decide +kernel
theorem dX12_putTwo_10 : decode cX12_putTwo 10 = .ok (.invokevirtual 402, 3) := by decide +kernel
theorem dX12_putTwo_13 : decode cX12_putTwo 13 = .ok (.return_, 1) := by decide +kernel
theorem dX12_putCheck_0 : decode cX12_putCheck 0 = .ok (.aload_n 0, 1) := by decide +kernel
theorem dX12_putCheck_1 : decode cX12_putCheck 1 = .ok (.aload_n 0, 1) := by decide +kernel
theorem dX12_putCheck_2 : decode cX12_putCheck 2 = .ok (.getfield 161, 3) := by decide +kernel
theorem dX12_putCheck_5 : decode cX12_putCheck 5 = .ok (.iconst 5, 1) := by decide +kernel
theorem dX12_putCheck_6 : decode cX12_putCheck 6 = .ok (.aload_n 0, 1) := by decide +kernel
theorem dX12_putCheck_7 : decode cX12_putCheck 7 = .ok (.getfield 399, 3) := by decide +kernel
theorem dX12_putCheck_10 : decode cX12_putCheck 10 = .ok (.invokevirtual 405, 3) := by decide +kernel
theorem dX12_putCheck_13 : decode cX12_putCheck 13 = .ok (.istore_n 1, 1) := by decide +kernel
theorem dX12_putCheck_14 : decode cX12_putCheck 14 = .ok (.aload_n 0, 1) := by decide +kernel
theorem dX12_putCheck_15 : decode cX12_putCheck 15 = .ok (.iload_n 1, 1) := by decide +kernel
theorem dX12_putCheck_16 : decode cX12_putCheck 16 = .ok (.bipush 16, 2) := by decide +kernel
theorem dX12_putCheck_18 : decode cX12_putCheck 18 = .ok (.ishr, 1) := by decide +kernel
theorem dX12_putCheck_19 : decode cX12_putCheck 19 = .ok (.invokevirtual 408, 3) := by decide +kernel
theorem dX12_putCheck_22 : decode cX12_putCheck 22 = .ok (.aload_n 0, 1) := by decide +kernel
theorem dX12_putCheck_23 : decode cX12_putCheck 23 = .ok (.iload_n 1, 1) := by decide +kernel
theorem dX12_putCheck_24 : decode cX12_putCheck 24 = .ok (.invokevirtual 408, 3) := by decide +kernel
theorem dX12_putCheck_27 : decode cX12_putCheck 27 = .ok (.return_, 1) := by decide +kernel
theorem dX12_list_0 : decode cX12_list 0 = .ok (.iconst 0, 1) := by decide +kernel
theorem dX12_list_1 : decode cX12_list 1 = .ok (.istore_n 1, 1) := by decide +kernel
theorem dX12_list_2 : decode cX12_list 2 = .ok (.iconst 0, 1) := by decide +kernel
theorem dX12_list_3 : decode cX12_list 3 = .ok (.istore_n 2, 1) := by decide +kernel
theorem dX12_list_4 : decode cX12_list 4 = .ok (.iload_n 2, 1) := by decide +kernel
theorem dX12_list_5 : decode cX12_list 5 = .ok (.iconst 3, 1) := by decide +kernel
theorem dX12_list_6 : decode cX12_list 6 = .ok (.if_icmp .ge 26, 3) := by decide +kernel
theorem dX12_list_9 : decode cX12_list 9 = .ok (.iload_n 1, 1) := by decide +kernel
theorem dX12_list_10 : decode cX12_list 10 = .ok (.aload_n 0, 1) := by decide +kernel
theorem dX12_list_11 : decode cX12_list 11 = .ok (.getfield 125, 3) := by decide +kernel
theorem dX12_list_14 : decode cX12_list 14 = .ok (.iload_n 2, 1) := by decide +kernel
theorem dX12_list_15 : decode cX12_list 15 = .ok (.baload, 1) := by decide +kernel
theorem dX12_list_16 : decode cX12_list 16 = .ok (.ifCond .eq 7, 3) := by decide +kernel
theorem dX12_list_19 : decode cX12_list 19 = .ok (.iconst 1, 1) := by decide +kernel
theorem dX12_list_20 : decode cX12_list 20 = .ok (.goto 4, 3) := by decide +kernel
theorem dX12_list_23 : decode cX12_list 23 = .ok (.iconst 0, 1) := by decide +kernel
theorem dX12_list_24 : decode cX12_list 24 = .ok (.iadd, 1) := by decide +kernel
theorem dX12_list_25 : decode cX12_list 25 = .ok (.istore_n 1, 1) := by decide +kernel
theorem dX12_list_26 : decode cX12_list 26 = .ok (.iinc 2 1, 3) := by decide +kernel
theorem dX12_list_29 : decode cX12_list 29 = .ok (.goto (-25), 3) := by decide +kernel
theorem dX12_list_32 : decode cX12_list 32 = .ok (.aload_n 0, 1) := by decide +kernel
theorem dX12_list_33 : decode cX12_list 33 = .ok (.iconst 0, 1) := by decide +kernel
theorem dX12_list_34 : decode cX12_list 34 = .ok (.iconst 0, 1) := by decide +kernel
theorem dX12_list_35 : decode cX12_list 35 = .ok (.iconst 1, 1) := by decide +kernel
theorem dX12_list_36 : decode cX12_list 36 = .ok (.iconst 1, 1) := by decide +kernel
theorem dX12_list_37 : decode cX12_list 37 = .ok (.iconst 0, 1) := by decide +kernel
theorem dX12_list_38 : decode cX12_list 38 = .ok (.invokevirtual 411, 3) := by decide +kernel
theorem dX12_list_41 : decode cX12_list 41 = .ok (.aload_n 0, 1) := by decide +kernel
theorem dX12_list_42 : decode cX12_list 42 = .ok (.iconst 4, 1) := by decide +kernel
theorem dX12_list_43 : decode cX12_list 43 = .ok (.putfield 399, 3) := by decide +kernel
theorem dX12_list_46 : decode cX12_list 46 = .ok (.aload_n 0, 1) := by decide +kernel
theorem dX12_list_47 : decode cX12_list 47 = .ok (.iconst 0, 1) := by decide +kernel
theorem dX12_list_48 : decode cX12_list 48 = .ok (.invokevirtual 402, 3) := by decide +kernel
theorem dX12_list_51 : decode cX12_list 51 = .ok (.aload_n 0, 1) := by decide +kernel
theorem dX12_list_52 : decode cX12_list 52 = .ok (.iconst 0, 1) := by decide +kernel
theorem dX12_list_53 : decode cX12_list 53 = .ok (.invokevirtual 402, 3) := by decide +kernel
theorem dX12_list_56 : decode cX12_list 56 = .ok (.aload_n 0, 1) := by decide +kernel
theorem dX12_list_57 : decode cX12_list 57 = .ok (.sipush 176, 3) := by decide +kernel
theorem dX12_list_60 : decode cX12_list 60 = .ok (.invokevirtual 402, 3) := by decide +kernel
theorem dX12_list_63 : decode cX12_list 63 = .ok (.aload_n 0, 1) := by decide +kernel
theorem dX12_list_64 : decode cX12_list 64 = .ok (.bipush 9, 2) := by decide +kernel
theorem dX12_list_66 : decode cX12_list 66 = .ok (.iconst 4, 1) := by decide +kernel
theorem dX12_list_67 : decode cX12_list 67 = .ok (.iload_n 1, 1) := by decide +kernel
theorem dX12_list_68 : decode cX12_list 68 = .ok (.imul, 1) := by decide +kernel
theorem dX12_list_69 : decode cX12_list 69 = .ok (.iadd, 1) := by decide +kernel
theorem dX12_list_70 : decode cX12_list 70 = .ok (.invokevirtual 402, 3) := by decide +kernel
theorem dX12_list_73 : decode cX12_list 73 = .ok (.aload_n 0, 1) := by decide +kernel
theorem dX12_list_74 : decode cX12_list 74 = .ok (.iconst 1, 1) := by decide +kernel
theorem dX12_list_75 : decode cX12_list 75 = .ok (.invokevirtual 408, 3) := by decide +kernel
theorem dX12_list_78 : decode cX12_list 78 = .ok (.aload_n 0, 1) := by decide +kernel
theorem dX12_list_79 : decode cX12_list 79 = .ok (.sipush 193, 3) := by decide +kernel
theorem dX12_list_82 : decode cX12_list 82 = .ok (.iconst 2, 1) := by decide +kernel
theorem dX12_list_83 : decode cX12_list 83 = .ok (.aload_n 0, 1) := by decide +kernel
theorem dX12_list_84 : decode cX12_list 84 = .ok (.getfield 364, 3) := by decide +kernel
theorem dX12_list_87 : decode cX12_list 87 = .ok (.imul, 1) := by decide +kernel
theorem dX12_list_88 : decode cX12_list 88 = .ok (.iadd, 1) := by decide +kernel
theorem dX12_list_89 : decode cX12_list 89 = .ok (.invokevirtual 402, 3) := by decide +kernel
theorem dX12_list_92 : decode cX12_list 92 = .ok (.aload_n 0, 1) := by decide +kernel
theorem dX12_list_93 : decode cX12_list 93 = .ok (.iconst 0, 1) := by decide +kernel
theorem dX12_list_94 : decode cX12_list 94 = .ok (.invokevirtual 408, 3) := by decide +kernel
theorem dX12_list_97 : decode cX12_list 97 = .ok (.iconst 0, 1) := by decide +kernel
theorem dX12_list_98 : decode cX12_list 98 = .ok (.istore_n 2, 1) := by decide +kernel
theorem dX12_list_99 : decode cX12_list 99 = .ok (.iload_n 2, 1) := by decide +kernel
theorem dX12_list_100 : decode cX12_list 100 = .ok (.iconst 3, 1) := by decide +kernel
theorem dX12_list_101 : decode cX12_list 101 = .ok (.if_icmp .ge 37, 3) := by decide +kernel
theorem dX12_list_104 : decode cX12_list 104 = .ok (.aload_n 0, 1) := by decide +kernel
theorem dX12_list_105 : decode cX12_list 105 = .ok (.getfield 125, 3) := by decide +kernel
theorem dX12_list_108 : decode cX12_list 108 = .ok (.iload_n 2, 1) := by decide +kernel
theorem dX12_list_109 : decode cX12_list 109 = .ok (.baload, 1) := by decide +kernel
theorem dX12_list_110 : decode cX12_list 110 = .ok (.ifCond .eq 22, 3) := by decide +kernel
theorem dX12_list_113 : decode cX12_list 113 = .ok (.aload_n 0, 1) := by decide +kernel
theorem dX12_list_114 : decode cX12_list 114 = .ok (.iload_n 2, 1) := by decide +kernel
theorem dX12_list_115 : decode cX12_list 115 = .ok (.iconst 1, 1) := by decide +kernel
theorem dX12_list_116 : decode cX12_list 116 = .ok (.iadd, 1) := by decide +kernel
theorem dX12_list_117 : decode cX12_list 117 = .ok (.invokevirtual 408, 3) := by decide +kernel
theorem dX12_list_120 : decode cX12_list 120 = .ok (.aload_n 0, 1) := by decide +kernel
theorem dX12_list_121 : decode cX12_list 121 = .ok (.ldc_w 415, 3) := by decide +kernel
theorem dX12_list_124 : decode cX12_list 124 = .ok (.bipush 16, 2) := by decide +kernel
theorem dX12_list_126 : decode cX12_list 126 = .ok (.iload_n 2, 1) := by decide +kernel
theorem dX12_list_127 : decode cX12_list 127 = .ok (.imul, 1) := by decide +kernel
theorem dX12_list_128 : decode cX12_list 128 = .ok (.iadd, 1) := by decide +kernel
theorem dX12_list_129 : decode cX12_list 129 = .ok (.invokevirtual 408, 3) := by decide +kernel
theorem dX12_list_132 : decode cX12_list 132 = .ok (.iinc 2 1, 3) := by decide +kernel
theorem dX12_list_135 : decode cX12_list 135 = .ok (.goto (-36), 3) := by decide +kernel
theorem dX12_list_138 : decode cX12_list 138 = .ok (.aload_n 0, 1) := by decide +kernel
theorem dX12_list_139 : decode cX12_list 139 = .ok (.invokevirtual 416, 3) := by decide +kernel
theorem dX12_list_142 : decode cX12_list 142 = .ok (.aload_n 0, 1) := by decide +kernel
theorem dX12_list_143 : decode cX12_list 143 = .ok (.invokevirtual 419, 3) := by decide +kernel
theorem dX12_list_146 : decode cX12_list 146 = .ok (.return_, 1) := by decide +kernel
theorem dX12_table_0 : decode cX12_table 0 = .ok (.aload_n 0, 1) := by decide +kernel
theorem dX12_table_1 : decode cX12_table 1 = .ok (.sipush 256, 3) := by decide +kernel
theorem dX12_table_4 : decode cX12_table 4 = .ok (.bipush 16, 2) := by decide +kernel
theorem dX12_table_6 : decode cX12_table 6 = .ok (.iload_n 1, 1) := by decide +kernel
theorem dX12_table_7 : decode cX12_table 7 = .ok (.imul, 1) := by decide +kernel
theorem dX12_table_8 : decode cX12_table 8 = .ok (.iadd, 1) := by decide +kernel
theorem dX12_table_9 : decode cX12_table 9 = .ok (.iconst 1, 1) := by decide +kernel
theorem dX12_table_10 : decode cX12_table 10 = .ok (.iload_n 1, 1) := by decide +kernel
theorem dX12_table_11 : decode cX12_table 11 = .ok (.iadd, 1) := by decide +kernel
theorem dX12_table_12 : decode cX12_table 12 = .ok (.iconst 1, 1) := by decide +kernel
theorem dX12_table_13 : decode cX12_table 13 = .ok (.iconst 1, 1) := by decide +kernel
theorem dX12_table_14 : decode cX12_table 14 = .ok (.iconst 0, 1) := by decide +kernel
theorem dX12_table_15 : decode cX12_table 15 = .ok (.invokevirtual 411, 3) := by decide +kernel
theorem dX12_table_18 : decode cX12_table 18 = .ok (.aload_n 0, 1) := by decide +kernel
theorem dX12_table_19 : decode cX12_table 19 = .ok (.iconst 4, 1) := by decide +kernel
theorem dX12_table_20 : decode cX12_table 20 = .ok (.putfield 399, 3) := by decide +kernel
theorem dX12_table_23 : decode cX12_table 23 = .ok (.aload_n 0, 1) := by decide +kernel
theorem dX12_table_24 : decode cX12_table 24 = .ok (.iconst 0, 1) := by decide +kernel
theorem dX12_table_25 : decode cX12_table 25 = .ok (.invokevirtual 402, 3) := by decide +kernel
theorem dX12_table_28 : decode cX12_table 28 = .ok (.aload_n 0, 1) := by decide +kernel
theorem dX12_table_29 : decode cX12_table 29 = .ok (.iconst 2, 1) := by decide +kernel
theorem dX12_table_30 : decode cX12_table 30 = .ok (.invokevirtual 402, 3) := by decide +kernel
theorem dX12_table_33 : decode cX12_table 33 = .ok (.aload_n 0, 1) := by decide +kernel
theorem dX12_table_34 : decode cX12_table 34 = .ok (.sipush 176, 3) := by decide +kernel
theorem dX12_table_37 : decode cX12_table 37 = .ok (.invokevirtual 402, 3) := by decide +kernel
theorem dX12_table_40 : decode cX12_table 40 = .ok (.aload_n 0, 1) := by decide +kernel
theorem dX12_table_41 : decode cX12_table 41 = .ok (.bipush 18, 2) := by decide +kernel
theorem dX12_table_43 : decode cX12_table 43 = .ok (.invokevirtual 402, 3) := by decide +kernel
theorem dX12_table_46 : decode cX12_table 46 = .ok (.aload_n 0, 1) := by decide +kernel
theorem dX12_table_47 : decode cX12_table 47 = .ok (.iload_n 1, 1) := by decide +kernel
theorem dX12_table_48 : decode cX12_table 48 = .ok (.iconst 1, 1) := by decide +kernel
theorem dX12_table_49 : decode cX12_table 49 = .ok (.iadd, 1) := by decide +kernel
theorem dX12_table_50 : decode cX12_table 50 = .ok (.invokevirtual 408, 3) := by decide +kernel
theorem dX12_table_53 : decode cX12_table 53 = .ok (.aload_n 0, 1) := by decide +kernel
theorem dX12_table_54 : decode cX12_table 54 = .ok (.sipush 193, 3) := by decide +kernel
theorem dX12_table_57 : decode cX12_table 57 = .ok (.invokevirtual 402, 3) := by decide +kernel
theorem dX12_table_60 : decode cX12_table 60 = .ok (.aload_n 0, 1) := by decide +kernel
theorem dX12_table_61 : decode cX12_table 61 = .ok (.iconst 0, 1) := by decide +kernel
theorem dX12_table_62 : decode cX12_table 62 = .ok (.invokevirtual 408, 3) := by decide +kernel
theorem dX12_table_65 : decode cX12_table 65 = .ok (.aload_n 0, 1) := by decide +kernel
theorem dX12_table_66 : decode cX12_table 66 = .ok (.ldc_w 422, 3) := by decide +kernel
theorem dX12_table_69 : decode cX12_table 69 = .ok (.bipush 16, 2) := by decide +kernel
theorem dX12_table_71 : decode cX12_table 71 = .ok (.iload_n 1, 1) := by decide +kernel
theorem dX12_table_72 : decode cX12_table 72 = .ok (.imul, 1) := by decide +kernel
theorem dX12_table_73 : decode cX12_table 73 = .ok (.iadd, 1) := by decide +kernel
theorem dX12_table_74 : decode cX12_table 74 = .ok (.invokevirtual 408, 3) := by decide +kernel
theorem dX12_table_77 : decode cX12_table 77 = .ok (.aload_n 0, 1) := by decide +kernel
theorem dX12_table_78 : decode cX12_table 78 = .ok (.ldc_w 423, 3) := by decide +kernel
theorem dX12_table_81 : decode cX12_table 81 = .ok (.invokevirtual 408, 3) := by decide +kernel
theorem dX12_table_84 : decode cX12_table 84 = .ok (.aload_n 0, 1) := by decide +kernel
theorem dX12_table_85 : decode cX12_table 85 = .ok (.bipush 27, 2) := by decide +kernel
theorem dX12_table_87 : decode cX12_table 87 = .ok (.invokevirtual 402, 3) := by decide +kernel
theorem dX12_table_90 : decode cX12_table 90 = .ok (.aload_n 0, 1) := by decide +kernel
theorem dX12_table_91 : decode cX12_table 91 = .ok (.ldc_w 422, 3) := by decide +kernel
theorem dX12_table_94 : decode cX12_table 94 = .ok (.bipush 16, 2) := by decide +kernel
theorem dX12_table_96 : decode cX12_table 96 = .ok (.iload_n 1, 1) := by decide +kernel
theorem dX12_table_97 : decode cX12_table 97 = .ok (.imul, 1) := by decide +kernel
theorem dX12_table_98 : decode cX12_table 98 = .ok (.iadd, 1) := by decide +kernel
theorem dX12_table_99 : decode cX12_table 99 = .ok (.invokevirtual 408, 3) := by decide +kernel
theorem dX12_table_102 : decode cX12_table 102 = .ok (.aload_n 0, 1) := by decide +kernel
theorem dX12_table_103 : decode cX12_table 103 = .ok (.ldc_w 423, 3) := by decide +kernel
theorem dX12_table_106 : decode cX12_table 106 = .ok (.invokevirtual 408, 3) := by decide +kernel
theorem dX12_table_109 : decode cX12_table 109 = .ok (.aload_n 0, 1) := by decide +kernel
theorem dX12_table_110 : decode cX12_table 110 = .ok (.invokevirtual 416, 3) := by decide +kernel
theorem dX12_table_113 : decode cX12_table 113 = .ok (.aload_n 0, 1) := by decide +kernel
theorem dX12_table_114 : decode cX12_table 114 = .ok (.invokevirtual 419, 3) := by decide +kernel
theorem dX12_table_117 : decode cX12_table 117 = .ok (.return_, 1) := by decide +kernel
theorem dX12_nothing_0 : decode cX12_nothing 0 = .ok (.aload_n 0, 1) := by decide +kernel
theorem dX12_nothing_1 : decode cX12_nothing 1 = .ok (.getfield 161, 3) := by decide +kernel
theorem dX12_nothing_4 : decode cX12_nothing 4 = .ok (.iconst 0, 1) := by decide +kernel
theorem dX12_nothing_5 : decode cX12_nothing 5 = .ok (.bipush 71, 2) := by decide +kernel
theorem dX12_nothing_7 : decode cX12_nothing 7 = .ok (.iastore, 1) := by decide +kernel
theorem dX12_nothing_8 : decode cX12_nothing 8 = .ok (.aload_n 0, 1) := by decide +kernel
theorem dX12_nothing_9 : decode cX12_nothing 9 = .ok (.getfield 161, 3) := by decide +kernel
theorem dX12_nothing_12 : decode cX12_nothing 12 = .ok (.iconst 1, 1) := by decide +kernel
theorem dX12_nothing_13 : decode cX12_nothing 13 = .ok (.bipush 31, 2) := by decide +kernel
theorem dX12_nothing_15 : decode cX12_nothing 15 = .ok (.iastore, 1) := by decide +kernel
theorem dX12_nothing_16 : decode cX12_nothing 16 = .ok (.aload_n 0, 1) := by decide +kernel
theorem dX12_nothing_17 : decode cX12_nothing 17 = .ok (.getfield 161, 3) := by decide +kernel
theorem dX12_nothing_20 : decode cX12_nothing 20 = .ok (.iconst 2, 1) := by decide +kernel
theorem dX12_nothing_21 : decode cX12_nothing 21 = .ok (.sipush 255, 3) := by decide +kernel
theorem dX12_nothing_24 : decode cX12_nothing 24 = .ok (.iastore, 1) := by decide +kernel
theorem dX12_nothing_25 : decode cX12_nothing 25 = .ok (.aload_n 0, 1) := by decide +kernel
theorem dX12_nothing_26 : decode cX12_nothing 26 = .ok (.getfield 161, 3) := by decide +kernel
theorem dX12_nothing_29 : decode cX12_nothing 29 = .ok (.iconst 3, 1) := by decide +kernel
theorem dX12_nothing_30 : decode cX12_nothing 30 = .ok (.bipush 16, 2) := by decide +kernel
theorem dX12_nothing_32 : decode cX12_nothing 32 = .ok (.iastore, 1) := by decide +kernel
theorem dX12_nothing_33 : decode cX12_nothing 33 = .ok (.iconst 4, 1) := by decide +kernel
theorem dX12_nothing_34 : decode cX12_nothing 34 = .ok (.istore_n 1, 1) := by decide +kernel
theorem dX12_nothing_35 : decode cX12_nothing 35 = .ok (.iload_n 1, 1) := by decide +kernel
theorem dX12_nothing_36 : decode cX12_nothing 36 = .ok (.sipush 188, 3) := by decide +kernel
theorem dX12_nothing_39 : decode cX12_nothing 39 = .ok (.if_icmp .ge 18, 3) := by decide +kernel
theorem dX12_nothing_42 : decode cX12_nothing 42 = .ok (.aload_n 0, 1) := by decide +kernel
theorem dX12_nothing_43 : decode cX12_nothing 43 = .ok (.getfield 161, 3) := by decide +kernel
theorem dX12_nothing_46 : decode cX12_nothing 46 = .ok (.iload_n 1, 1) := by decide +kernel
theorem dX12_nothing_47 : decode cX12_nothing 47 = .ok (.sipush 255, 3) := by decide +kernel
theorem dX12_nothing_50 : decode cX12_nothing 50 = .ok (.iastore, 1) := by decide +kernel
theorem dX12_nothing_51 : decode cX12_nothing 51 = .ok (.iinc 1 1, 3) := by decide +kernel
theorem dX12_nothing_54 : decode cX12_nothing 54 = .ok (.goto (-19), 3) := by decide +kernel
theorem dX12_nothing_57 : decode cX12_nothing 57 = .ok (.aload_n 0, 1) := by decide +kernel
theorem dX12_nothing_58 : decode cX12_nothing 58 = .ok (.invokevirtual 419, 3) := by decide +kernel
theorem dX12_nothing_61 : decode cX12_nothing 61 = .ok (.return_, 1) := by decide +kernel
theorem dX12_waiting_0 : decode cX12_waiting 0 = .ok (.iload_n 2, 1) := by decide +kernel
theorem dX12_waiting_1 : decode cX12_waiting 1 = .ok (.bipush 7, 2) := by decide +kernel
theorem dX12_waiting_3 : decode cX12_waiting 3 = .ok (.if_icmp .ge 7, 3) := by decide +kernel
theorem dX12_waiting_6 : decode cX12_waiting 6 = .ok (.iconst 0, 1) := by decide +kernel
theorem dX12_waiting_7 : decode cX12_waiting 7 = .ok (.goto 7, 3) := by decide +kernel
theorem dX12_waiting_10 : decode cX12_waiting 10 = .ok (.iload_n 2, 1) := by decide +kernel
theorem dX12_waiting_11 : decode cX12_waiting 11 = .ok (.bipush 7, 2) := by decide +kernel
theorem dX12_waiting_13 : decode cX12_waiting 13 = .ok (.isub, 1) := by decide +kernel
theorem dX12_waiting_14 : decode cX12_waiting 14 = .ok (.istore_n 3, 1) := by decide +kernel
theorem dX12_waiting_15 : decode cX12_waiting 15 = .ok (.iload_n 3, 1) := by decide +kernel
theorem dX12_waiting_16 : decode cX12_waiting 16 = .ok (.iload_n 2, 1) := by decide +kernel
theorem dX12_waiting_17 : decode cX12_waiting 17 = .ok (.if_icmp .gt 27, 3) := by decide +kernel
theorem dX12_waiting_20 : decode cX12_waiting 20 = .ok (.aload_n 0, 1) := by decide +kernel
theorem dX12_waiting_21 : decode cX12_waiting 21 = .ok (.getfield 128, 3) := by decide +kernel
theorem dX12_waiting_24 : decode cX12_waiting 24 = .ok (.sipush 3000, 3) := by decide +kernel
theorem dX12_waiting_27 : decode cX12_waiting 27 = .ok (.iload_n 1, 1) := by decide +kernel
theorem dX12_waiting_28 : decode cX12_waiting 28 = .ok (.imul, 1) := by decide +kernel
theorem dX12_waiting_29 : decode cX12_waiting 29 = .ok (.iload_n 3, 1) := by decide +kernel
theorem dX12_waiting_30 : decode cX12_waiting 30 = .ok (.iadd, 1) := by decide +kernel
theorem dX12_waiting_31 : decode cX12_waiting 31 = .ok (.iaload, 1) := by decide +kernel
theorem dX12_waiting_32 : decode cX12_waiting 32 = .ok (.iconst 1, 1) := by decide +kernel
theorem dX12_waiting_33 : decode cX12_waiting 33 = .ok (.if_icmp .ne 5, 3) := by decide +kernel
theorem dX12_waiting_36 : decode cX12_waiting 36 = .ok (.iload_n 3, 1) := by decide +kernel
theorem dX12_waiting_37 : decode cX12_waiting 37 = .ok (.ireturn, 1) := by decide +kernel
theorem dX12_waiting_38 : decode cX12_waiting 38 = .ok (.iinc 3 1, 3) := by decide +kernel
theorem dX12_waiting_41 : decode cX12_waiting 41 = .ok (.goto (-26), 3) := by decide +kernel
theorem dX12_waiting_44 : decode cX12_waiting 44 = .ok (.iconst (-1), 1) := by decide +kernel
theorem dX12_waiting_45 : decode cX12_waiting 45 = .ok (.ireturn, 1) := by decide +kernel
theorem dX12_isMarked_0 : decode cX12_isMarked 0 = .ok (.aload_n 0, 1) := by decide +kernel
theorem dX12_isMarked_1 : decode cX12_isMarked 1 = .ok (.getfield 140, 3) := by decide +kernel
theorem dX12_isMarked_4 : decode cX12_isMarked 4 = .ok (.sipush 3000, 3) := by decide +kernel
theorem dX12_isMarked_7 : decode cX12_isMarked 7 = .ok (.iload_n 1, 1) := by decide +kernel
theorem dX12_isMarked_8 : decode cX12_isMarked 8 = .ok (.imul, 1) := by decide +kernel
theorem dX12_isMarked_9 : decode cX12_isMarked 9 = .ok (.iload_n 2, 1) := by decide +kernel
theorem dX12_isMarked_10 : decode cX12_isMarked 10 = .ok (.iadd, 1) := by decide +kernel
theorem dX12_isMarked_11 : decode cX12_isMarked 11 = .ok (.iaload, 1) := by decide +kernel
theorem dX12_isMarked_12 : decode cX12_isMarked 12 = .ok (.ifCond .ne 22, 3) := by decide +kernel
theorem dX12_isMarked_15 : decode cX12_isMarked 15 = .ok (.aload_n 0, 1) := by decide +kernel
theorem dX12_isMarked_16 : decode cX12_isMarked 16 = .ok (.getfield 134, 3) := by decide +kernel
theorem dX12_isMarked_19 : decode cX12_isMarked 19 = .ok (.sipush 3000, 3) := by decide +kernel
theorem dX12_isMarked_22 : decode cX12_isMarked 22 = .ok (.iload_n 1, 1) := by decide +kernel
theorem dX12_isMarked_23 : decode cX12_isMarked 23 = .ok (.imul, 1) := by decide +kernel
theorem dX12_isMarked_24 : decode cX12_isMarked 24 = .ok (.iload_n 2, 1) := by decide +kernel
theorem dX12_isMarked_25 : decode cX12_isMarked 25 = .ok (.iadd, 1) := by decide +kernel
theorem dX12_isMarked_26 : decode cX12_isMarked 26 = .ok (.iaload, 1) := by decide +kernel
theorem dX12_isMarked_27 : decode cX12_isMarked 27 = .ok (.ifCond .le 7, 3) := by decide +kernel
theorem dX12_isMarked_30 : decode cX12_isMarked 30 = .ok (.iconst 1, 1) := by decide +kernel
theorem dX12_isMarked_31 : decode cX12_isMarked 31 = .ok (.goto 4, 3) := by decide +kernel
theorem dX12_isMarked_34 : decode cX12_isMarked 34 = .ok (.iconst 0, 1) := by decide +kernel
theorem dX12_isMarked_35 : decode cX12_isMarked 35 = .ok (.ireturn, 1) := by decide +kernel
theorem dX12_nextBytes_0 : decode cX12_nextBytes 0 = .ok (.bipush 14, 2) := by decide +kernel
theorem dX12_nextBytes_2 : decode cX12_nextBytes 2 = .ok (.aload_n 0, 1) := by decide +kernel
theorem dX12_nextBytes_3 : decode cX12_nextBytes 3 = .ok (.getfield 131, 3) := by decide +kernel
theorem dX12_nextBytes_6 : decode cX12_nextBytes 6 = .ok (.sipush 3000, 3) := by decide +kernel
theorem dX12_nextBytes_9 : decode cX12_nextBytes 9 = .ok (.iload_n 1, 1) := by decide +kernel
theorem dX12_nextBytes_10 : decode cX12_nextBytes 10 = .ok (.imul, 1) := by decide +kernel
theorem dX12_nextBytes_11 : decode cX12_nextBytes 11 = .ok (.iload_n 2, 1) := by decide +kernel
theorem dX12_nextBytes_12 : decode cX12_nextBytes 12 = .ok (.iadd, 1) := by decide +kernel
theorem dX12_nextBytes_13 : decode cX12_nextBytes 13 = .ok (.iaload, 1) := by decide +kernel
theorem dX12_nextBytes_14 : decode cX12_nextBytes 14 = .ok (.iadd, 1) := by decide +kernel
theorem dX12_nextBytes_15 : decode cX12_nextBytes 15 = .ok (.aload_n 0, 1) := by decide +kernel
theorem dX12_nextBytes_16 : decode cX12_nextBytes 16 = .ok (.getfield 140, 3) := by decide +kernel
theorem dX12_nextBytes_19 : decode cX12_nextBytes 19 = .ok (.sipush 3000, 3) := by decide +kernel
theorem dX12_nextBytes_22 : decode cX12_nextBytes 22 = .ok (.iload_n 1, 1) := by decide +kernel
theorem dX12_nextBytes_23 : decode cX12_nextBytes 23 = .ok (.imul, 1) := by decide +kernel
theorem dX12_nextBytes_24 : decode cX12_nextBytes 24 = .ok (.iload_n 2, 1) := by decide +kernel
theorem dX12_nextBytes_25 : decode cX12_nextBytes 25 = .ok (.iadd, 1) := by decide +kernel
theorem dX12_nextBytes_26 : decode cX12_nextBytes 26 = .ok (.iaload, 1) := by decide +kernel
theorem dX12_nextBytes_27 : decode cX12_nextBytes 27 = .ok (.isub, 1) := by decide +kernel
theorem dX12_nextBytes_28 : decode cX12_nextBytes 28 = .ok (.istore 4, 2) := by decide +kernel
theorem dX12_nextBytes_30 : decode cX12_nextBytes 30 = .ok (.sipush 184, 3) := by decide +kernel
theorem dX12_nextBytes_33 : decode cX12_nextBytes 33 = .ok (.iload_n 3, 1) := by decide +kernel
theorem dX12_nextBytes_34 : decode cX12_nextBytes 34 = .ok (.ifCond .eq 8, 3) := by decide +kernel
theorem dX12_nextBytes_37 : decode cX12_nextBytes 37 = .ok (.bipush 8, 2) := by decide +kernel
theorem dX12_nextBytes_39 : decode cX12_nextBytes 39 = .ok (.goto 17, 3) := by decide +kernel
theorem dX12_nextBytes_42 : decode cX12_nextBytes 42 = .ok (.aload_n 0, 1) := by decide +kernel
theorem dX12_nextBytes_43 : decode cX12_nextBytes 43 = .ok (.iload_n 1, 1) := by decide +kernel
theorem dX12_nextBytes_44 : decode cX12_nextBytes 44 = .ok (.iload_n 2, 1) := by decide +kernel
theorem dX12_nextBytes_45 : decode cX12_nextBytes 45 = .ok (.invokevirtual 424, 3) := by decide +kernel
theorem dX12_nextBytes_48 : decode cX12_nextBytes 48 = .ok (.ifCond .eq 7, 3) := by decide +kernel
theorem dX12_nextBytes_51 : decode cX12_nextBytes 51 = .ok (.iconst 2, 1) := by decide +kernel
theorem dX12_nextBytes_52 : decode cX12_nextBytes 52 = .ok (.goto 4, 3) := by decide +kernel
theorem dX12_nextBytes_55 : decode cX12_nextBytes 55 = .ok (.iconst 0, 1) := by decide +kernel
theorem dX12_nextBytes_56 : decode cX12_nextBytes 56 = .ok (.isub, 1) := by decide +kernel
theorem dX12_nextBytes_57 : decode cX12_nextBytes 57 = .ok (.istore 5, 2) := by decide +kernel
theorem dX12_nextBytes_59 : decode cX12_nextBytes 59 = .ok (.iload 4, 2) := by decide +kernel
theorem dX12_nextBytes_61 : decode cX12_nextBytes 61 = .ok (.iload 5, 2) := by decide +kernel
theorem dX12_nextBytes_63 : decode cX12_nextBytes 63 = .ok (.if_icmp .ge 8, 3) := by decide +kernel
theorem dX12_nextBytes_66 : decode cX12_nextBytes 66 = .ok (.iload 4, 2) := by decide +kernel
theorem dX12_nextBytes_68 : decode cX12_nextBytes 68 = .ok (.goto 5, 3) := by decide +kernel
theorem dX12_nextBytes_71 : decode cX12_nextBytes 71 = .ok (.iload 5, 2) := by decide +kernel
theorem dX12_nextBytes_73 : decode cX12_nextBytes 73 = .ok (.ireturn, 1) := by decide +kernel
theorem dX12_stored_0 : decode cX12_stored 0 = .ok (.iconst 0, 1) := by decide +kernel
theorem dX12_stored_1 : decode cX12_stored 1 = .ok (.istore_n 3, 1) := by decide +kernel
theorem dX12_stored_2 : decode cX12_stored 2 = .ok (.iload_n 2, 1) := by decide +kernel
theorem dX12_stored_3 : decode cX12_stored 3 = .ok (.bipush 7, 2) := by decide +kernel
theorem dX12_stored_5 : decode cX12_stored 5 = .ok (.if_icmp .ge 7, 3) := by decide +kernel
theorem dX12_stored_8 : decode cX12_stored 8 = .ok (.iconst 0, 1) := by decide +kernel
theorem dX12_stored_9 : decode cX12_stored 9 = .ok (.goto 7, 3) := by decide +kernel
theorem dX12_stored_12 : decode cX12_stored 12 = .ok (.iload_n 2, 1) := by decide +kernel
theorem dX12_stored_13 : decode cX12_stored 13 = .ok (.bipush 7, 2) := by decide +kernel
theorem dX12_stored_15 : decode cX12_stored 15 = .ok (.isub, 1) := by decide +kernel
theorem dX12_stored_16 : decode cX12_stored 16 = .ok (.istore 4, 2) := by decide +kernel
theorem dX12_stored_18 : decode cX12_stored 18 = .ok (.iload 4, 2) := by decide +kernel
theorem dX12_stored_20 : decode cX12_stored 20 = .ok (.iload_n 2, 1) := by decide +kernel
theorem dX12_stored_21 : decode cX12_stored 21 = .ok (.if_icmp .gt 25, 3) := by decide +kernel
theorem dX12_stored_24 : decode cX12_stored 24 = .ok (.iload_n 3, 1) := by decide +kernel
theorem dX12_stored_25 : decode cX12_stored 25 = .ok (.aload_n 0, 1) := by decide +kernel
theorem dX12_stored_26 : decode cX12_stored 26 = .ok (.getfield 143, 3) := by decide +kernel
theorem dX12_stored_29 : decode cX12_stored 29 = .ok (.sipush 3000, 3) := by decide +kernel
theorem dX12_stored_32 : decode cX12_stored 32 = .ok (.iload_n 1, 1) := by decide +kernel
theorem dX12_stored_33 : decode cX12_stored 33 = .ok (.imul, 1) := by decide +kernel
theorem dX12_stored_34 : decode cX12_stored 34 = .ok (.iload 4, 2) := by decide +kernel
theorem dX12_stored_36 : decode cX12_stored 36 = .ok (.iadd, 1) := by decide +kernel
theorem dX12_stored_37 : decode cX12_stored 37 = .ok (.iaload, 1) := by decide +kernel
theorem dX12_stored_38 : decode cX12_stored 38 = .ok (.iadd, 1) := by decide +kernel
theorem dX12_stored_39 : decode cX12_stored 39 = .ok (.istore_n 3, 1) := by decide +kernel
theorem dX12_stored_40 : decode cX12_stored 40 = .ok (.iinc 4 1, 3) := by decide +kernel
theorem dX12_stored_43 : decode cX12_stored 43 = .ok (.goto (-25), 3) := by decide +kernel
theorem dX12_stored_46 : decode cX12_stored 46 = .ok (.iload_n 3, 1) := by decide +kernel
theorem dX12_stored_47 : decode cX12_stored 47 = .ok (.ireturn, 1) := by decide +kernel
theorem dX12_ready_0 : decode cX12_ready 0 = .ok (.aload_n 0, 1) := by decide +kernel
theorem dX12_ready_1 : decode cX12_ready 1 = .ok (.iload_n 1, 1) := by decide +kernel
theorem dX12_ready_2 : decode cX12_ready 2 = .ok (.iload_n 2, 1) := by decide +kernel
theorem dX12_ready_3 : decode cX12_ready 3 = .ok (.invokevirtual 427, 3) := by decide +kernel
theorem dX12_ready_6 : decode cX12_ready 6 = .ok (.istore 4, 2) := by decide +kernel
theorem dX12_ready_8 : decode cX12_ready 8 = .ok (.iload 4, 2) := by decide +kernel
theorem dX12_ready_10 : decode cX12_ready 10 = .ok (.iconst (-1), 1) := by decide +kernel
theorem dX12_ready_11 : decode cX12_ready 11 = .ok (.if_icmp .eq 32, 3) := by decide +kernel
theorem dX12_ready_14 : decode cX12_ready 14 = .ok (.aload_n 0, 1) := by decide +kernel
theorem dX12_ready_15 : decode cX12_ready 15 = .ok (.iload_n 1, 1) := by decide +kernel
theorem dX12_ready_16 : decode cX12_ready 16 = .ok (.iload_n 2, 1) := by decide +kernel
theorem dX12_ready_17 : decode cX12_ready 17 = .ok (.invokevirtual 430, 3) := by decide +kernel
theorem dX12_ready_20 : decode cX12_ready 20 = .ok (.aload_n 0, 1) := by decide +kernel
theorem dX12_ready_21 : decode cX12_ready 21 = .ok (.iload_n 1, 1) := by decide +kernel
theorem dX12_ready_22 : decode cX12_ready 22 = .ok (.iload 4, 2) := by decide +kernel
theorem dX12_ready_24 : decode cX12_ready 24 = .ok (.iload_n 3, 1) := by decide +kernel
theorem dX12_ready_25 : decode cX12_ready 25 = .ok (.invokevirtual 433, 3) := by decide +kernel
theorem dX12_ready_28 : decode cX12_ready 28 = .ok (.iadd, 1) := by decide +kernel
theorem dX12_ready_29 : decode cX12_ready 29 = .ok (.aload_n 0, 1) := by decide +kernel
theorem dX12_ready_30 : decode cX12_ready 30 = .ok (.getfield 115, 3) := by decide +kernel
theorem dX12_ready_33 : decode cX12_ready 33 = .ok (.iload_n 1, 1) := by decide +kernel
theorem dX12_ready_34 : decode cX12_ready 34 = .ok (.iaload, 1) := by decide +kernel
theorem dX12_ready_35 : decode cX12_ready 35 = .ok (.if_icmp .gt 8, 3) := by decide +kernel
theorem dX12_ready_38 : decode cX12_ready 38 = .ok (.iload 4, 2) := by decide +kernel
theorem dX12_ready_40 : decode cX12_ready 40 = .ok (.goto 4, 3) := by decide +kernel
theorem dX12_ready_43 : decode cX12_ready 43 = .ok (.iconst (-1), 1) := by decide +kernel
theorem dX12_ready_44 : decode cX12_ready 44 = .ok (.ireturn, 1) := by decide +kernel
theorem dX12_channelPacket_0 : decode cX12_channelPacket 0 = .ok (.iload_n 2, 1) := by decide +kernel
theorem dX12_channelPacket_1 : decode cX12_channelPacket 1 = .ok (.iconst (-1), 1) := by decide +kernel
theorem dX12_channelPacket_2 : decode cX12_channelPacket 2 = .ok (.if_icmp .ne 7, 3) := by decide +kernel
theorem dX12_channelPacket_5 : decode cX12_channelPacket 5 = .ok (.iconst 0, 1) := by decide +kernel
theorem dX12_channelPacket_6 : decode cX12_channelPacket 6 = .ok (.goto 10, 3) := by decide +kernel
theorem dX12_channelPacket_9 : decode cX12_channelPacket 9 = .ok (.aload_n 0, 1) := by decide +kernel
theorem dX12_channelPacket_10 : decode cX12_channelPacket 10 = .ok (.iload_n 1, 1) := by decide +kernel
theorem dX12_channelPacket_11 : decode cX12_channelPacket 11 = .ok (.iload_n 2, 1) := by decide +kernel
theorem dX12_channelPacket_12 : decode cX12_channelPacket 12 = .ok (.iload_n 3, 1) := by decide +kernel
theorem dX12_channelPacket_13 : decode cX12_channelPacket 13 = .ok (.invokevirtual 433, 3) := by decide +kernel
theorem dX12_channelPacket_16 : decode cX12_channelPacket 16 = .ok (.istore 4, 2) := by decide +kernel
theorem dX12_channelPacket_18 : decode cX12_channelPacket 18 = .ok (.sipush 3000, 3) := by decide +kernel
theorem dX12_channelPacket_21 : decode cX12_channelPacket 21 = .ok (.iload_n 1, 1) := by decide +kernel
theorem dX12_channelPacket_22 : decode cX12_channelPacket 22 = .ok (.imul, 1) := by decide +kernel
theorem dX12_channelPacket_23 : decode cX12_channelPacket 23 = .ok (.iload_n 2, 1) := by decide +kernel
theorem dX12_channelPacket_24 : decode cX12_channelPacket 24 = .ok (.iadd, 1) := by decide +kernel
theorem dX12_channelPacket_25 : decode cX12_channelPacket 25 = .ok (.istore 5, 2) := by decide +kernel
theorem dX12_channelPacket_27 : decode cX12_channelPacket 27 = .ok (.iload_n 2, 1) := by decide +kernel
theorem dX12_channelPacket_28 : decode cX12_channelPacket 28 = .ok (.iconst (-1), 1) := by decide +kernel
theorem dX12_channelPacket_29 : decode cX12_channelPacket 29 = .ok (.if_icmp .eq 17, 3) := by decide +kernel
theorem dX12_channelPacket_32 : decode cX12_channelPacket 32 = .ok (.aload_n 0, 1) := by decide +kernel
theorem dX12_channelPacket_33 : decode cX12_channelPacket 33 = .ok (.getfield 140, 3) := by decide +kernel
theorem dX12_channelPacket_36 : decode cX12_channelPacket 36 = .ok (.iload 5, 2) := by decide +kernel
theorem dX12_channelPacket_38 : decode cX12_channelPacket 38 = .ok (.iaload, 1) := by decide +kernel
theorem dX12_channelPacket_39 : decode cX12_channelPacket 39 = .ok (.ifCond .ne 7, 3) := by decide +kernel
theorem dX12_channelPacket_42 : decode cX12_channelPacket 42 = .ok (.iconst 1, 1) := by decide +kernel
theorem dX12_channelPacket_43 : decode cX12_channelPacket 43 = .ok (.goto 4, 3) := by decide +kernel
theorem dX12_channelPacket_46 : decode cX12_channelPacket 46 = .ok (.iconst 0, 1) := by decide +kernel
theorem dX12_channelPacket_47 : decode cX12_channelPacket 47 = .ok (.istore 6, 2) := by decide +kernel
theorem dX12_channelPacket_49 : decode cX12_channelPacket 49 = .ok (.iload 6, 2) := by decide +kernel
theorem dX12_channelPacket_51 : decode cX12_channelPacket 51 = .ok (.ifCond .eq 17, 3) := by decide +kernel
theorem dX12_channelPacket_54 : decode cX12_channelPacket 54 = .ok (.aload_n 0, 1) := by decide +kernel
theorem dX12_channelPacket_55 : decode cX12_channelPacket 55 = .ok (.getfield 134, 3) := by decide +kernel
theorem dX12_channelPacket_58 : decode cX12_channelPacket 58 = .ok (.iload 5, 2) := by decide +kernel
theorem dX12_channelPacket_60 : decode cX12_channelPacket 60 = .ok (.iaload, 1) := by decide +kernel
theorem dX12_channelPacket_61 : decode cX12_channelPacket 61 = .ok (.ifCond .le 7, 3) := by decide +kernel
theorem dX12_channelPacket_64 : decode cX12_channelPacket 64 = .ok (.iconst 1, 1) := by decide +kernel
theorem dX12_channelPacket_65 : decode cX12_channelPacket 65 = .ok (.goto 4, 3) := by decide +kernel
theorem dX12_channelPacket_68 : decode cX12_channelPacket 68 = .ok (.iconst 0, 1) := by decide +kernel
theorem dX12_channelPacket_69 : decode cX12_channelPacket 69 = .ok (.istore 7, 2) := by decide +kernel
theorem dX12_channelPacket_71 : decode cX12_channelPacket 71 = .ok (.sipush 184, 3) := by decide +kernel
theorem dX12_channelPacket_74 : decode cX12_channelPacket 74 = .ok (.iload 4, 2) := by decide +kernel
theorem dX12_channelPacket_76 : decode cX12_channelPacket 76 = .ok (.isub, 1) := by decide +kernel
theorem dX12_channelPacket_77 : decode cX12_channelPacket 77 = .ok (.istore 8, 2) := by decide +kernel
theorem dX12_channelPacket_79 : decode cX12_channelPacket 79 = .ok (.aload_n 0, 1) := by decide +kernel
theorem dX12_channelPacket_80 : decode cX12_channelPacket 80 = .ok (.sipush 257, 3) := by decide +kernel
theorem dX12_channelPacket_83 : decode cX12_channelPacket 83 = .ok (.bipush 16, 2) := by decide +kernel
theorem dX12_channelPacket_85 : decode cX12_channelPacket 85 = .ok (.iload_n 1, 1) := by decide +kernel
theorem dX12_channelPacket_86 : decode cX12_channelPacket 86 = .ok (.imul, 1) := by decide +kernel
theorem dX12_channelPacket_87 : decode cX12_channelPacket 87 = .ok (.iadd, 1) := by decide +kernel
theorem dX12_channelPacket_88 : decode cX12_channelPacket 88 = .ok (.iconst 4, 1) := by decide +kernel
theorem dX12_channelPacket_89 : decode cX12_channelPacket 89 = .ok (.iload_n 1, 1) := by decide +kernel
theorem dX12_channelPacket_90 : decode cX12_channelPacket 90 = .ok (.iadd, 1) := by decide +kernel
theorem dX12_channelPacket_91 : decode cX12_channelPacket 91 = .ok (.iload 6, 2) := by decide +kernel
theorem dX12_channelPacket_93 : decode cX12_channelPacket 93 = .ok (.iload 4, 2) := by decide +kernel
theorem dX12_channelPacket_95 : decode cX12_channelPacket 95 = .ok (.ifCond .le 7, 3) := by decide +kernel
theorem dX12_channelPacket_98 : decode cX12_channelPacket 98 = .ok (.iconst 1, 1) := by decide +kernel
theorem dX12_channelPacket_99 : decode cX12_channelPacket 99 = .ok (.goto 4, 3) := by decide +kernel
theorem dX12_channelPacket_102 : decode cX12_channelPacket 102 = .ok (.iconst 0, 1) := by decide +kernel
theorem dX12_channelPacket_103 : decode cX12_channelPacket 103 = .ok (.iload 8, 2) := by decide +kernel
theorem dX12_channelPacket_105 : decode cX12_channelPacket 105 = .ok (.ifCond .le 7, 3) := by decide +kernel
theorem dX12_channelPacket_108 : decode cX12_channelPacket 108 = .ok (.iconst 1, 1) := by decide +kernel
theorem dX12_channelPacket_109 : decode cX12_channelPacket 109 = .ok (.goto 4, 3) := by decide +kernel
theorem dX12_channelPacket_112 : decode cX12_channelPacket 112 = .ok (.iconst 0, 1) := by decide +kernel
theorem dX12_channelPacket_113 : decode cX12_channelPacket 113 = .ok (.invokevirtual 411, 3) := by decide +kernel
theorem dX12_channelPacket_116 : decode cX12_channelPacket 116 = .ok (.iload 8, 2) := by decide +kernel
theorem dX12_channelPacket_118 : decode cX12_channelPacket 118 = .ok (.ifCond .le 13, 3) := by decide +kernel
theorem dX12_channelPacket_121 : decode cX12_channelPacket 121 = .ok (.aload_n 0, 1) := by decide +kernel
theorem dX12_channelPacket_122 : decode cX12_channelPacket 122 = .ok (.getfield 161, 3) := by decide +kernel
theorem dX12_channelPacket_125 : decode cX12_channelPacket 125 = .ok (.iconst 4, 1) := by decide +kernel
theorem dX12_channelPacket_126 : decode cX12_channelPacket 126 = .ok (.iload 8, 2) := by decide +kernel
theorem dX12_channelPacket_128 : decode cX12_channelPacket 128 = .ok (.iconst 1, 1) := by decide +kernel
theorem dX12_channelPacket_129 : decode cX12_channelPacket 129 = .ok (.isub, 1) := by decide +kernel
theorem dX12_channelPacket_130 : decode cX12_channelPacket 130 = .ok (.iastore, 1) := by decide +kernel
theorem dX12_channelPacket_131 : decode cX12_channelPacket 131 = .ok (.iload 8, 2) := by decide +kernel
theorem dX12_channelPacket_133 : decode cX12_channelPacket 133 = .ok (.iconst 1, 1) := by decide +kernel
theorem dX12_channelPacket_134 : decode cX12_channelPacket 134 = .ok (.if_icmp .le 31, 3) := by decide +kernel
theorem dX12_channelPacket_137 : decode cX12_channelPacket 137 = .ok (.aload_n 0, 1) := by decide +kernel
theorem dX12_channelPacket_138 : decode cX12_channelPacket 138 = .ok (.getfield 161, 3) := by decide +kernel
theorem dX12_channelPacket_141 : decode cX12_channelPacket 141 = .ok (.iconst 5, 1) := by decide +kernel
theorem dX12_channelPacket_142 : decode cX12_channelPacket 142 = .ok (.iload 7, 2) := by decide +kernel
theorem dX12_channelPacket_144 : decode cX12_channelPacket 144 = .ok (.ifCond .eq 8, 3) := by decide +kernel
theorem dX12_channelPacket_147 : decode cX12_channelPacket 147 = .ok (.bipush 64, 2) := by decide +kernel
theorem dX12_channelPacket_149 : decode cX12_channelPacket 149 = .ok (.goto 4, 3) := by decide +kernel
theorem dX12_channelPacket_152 : decode cX12_channelPacket 152 = .ok (.iconst 0, 1) := by decide +kernel
theorem dX12_channelPacket_153 : decode cX12_channelPacket 153 = .ok (.iload_n 3, 1) := by decide +kernel
theorem dX12_channelPacket_154 : decode cX12_channelPacket 154 = .ok (.ifCond .eq 8, 3) := by decide +kernel
theorem dX12_channelPacket_157 : decode cX12_channelPacket 157 = .ok (.bipush 16, 2) := by decide +kernel
theorem dX12_channelPacket_159 : decode cX12_channelPacket 159 = .ok (.goto 4, 3) := by decide +kernel
theorem dX12_channelPacket_162 : decode cX12_channelPacket 162 = .ok (.iconst 0, 1) := by decide +kernel
theorem dX12_channelPacket_163 : decode cX12_channelPacket 163 = .ok (.iadd, 1) := by decide +kernel
theorem dX12_channelPacket_164 : decode cX12_channelPacket 164 = .ok (.iastore, 1) := by decide +kernel
theorem dX12_channelPacket_165 : decode cX12_channelPacket 165 = .ok (.iload_n 3, 1) := by decide +kernel
theorem dX12_channelPacket_166 : decode cX12_channelPacket 166 = .ok (.ifCond .eq 11, 3) := by decide +kernel
theorem dX12_channelPacket_169 : decode cX12_channelPacket 169 = .ok (.aload_n 0, 1) := by decide +kernel
theorem dX12_channelPacket_170 : decode cX12_channelPacket 170 = .ok (.aload_n 0, 1) := by decide +kernel
theorem dX12_channelPacket_171 : decode cX12_channelPacket 171 = .ok (.getfield 437, 3) := by decide +kernel
theorem dX12_channelPacket_174 : decode cX12_channelPacket 174 = .ok (.invokevirtual 440, 3) := by decide +kernel
theorem dX12_channelPacket_177 : decode cX12_channelPacket 177 = .ok (.iconst 0, 1) := by decide +kernel
theorem dX12_channelPacket_178 : decode cX12_channelPacket 178 = .ok (.istore 9, 2) := by decide +kernel
theorem dX12_channelPacket_180 : decode cX12_channelPacket 180 = .ok (.iload 9, 2) := by decide +kernel
theorem dX12_channelPacket_182 : decode cX12_channelPacket 182 = .ok (.bipush 6, 2) := by decide +kernel
theorem dX12_channelPacket_184 : decode cX12_channelPacket 184 = .ok (.if_icmp .ge 41, 3) := by decide +kernel
theorem dX12_channelPacket_187 : decode cX12_channelPacket 187 = .ok (.iload_n 3, 1) := by decide +kernel
theorem dX12_channelPacket_188 : decode cX12_channelPacket 188 = .ok (.ifCond .eq 37, 3) := by decide +kernel
theorem dX12_channelPacket_191 : decode cX12_channelPacket 191 = .ok (.aload_n 0, 1) := by decide +kernel
theorem dX12_channelPacket_192 : decode cX12_channelPacket 192 = .ok (.getfield 161, 3) := by decide +kernel
theorem dX12_channelPacket_195 : decode cX12_channelPacket 195 = .ok (.bipush 6, 2) := by decide +kernel
theorem dX12_channelPacket_197 : decode cX12_channelPacket 197 = .ok (.iload 9, 2) := by decide +kernel
theorem dX12_channelPacket_199 : decode cX12_channelPacket 199 = .ok (.iadd, 1) := by decide +kernel
theorem dX12_channelPacket_200 : decode cX12_channelPacket 200 = .ok (.aload_n 0, 1) := by decide +kernel
theorem dX12_channelPacket_201 : decode cX12_channelPacket 201 = .ok (.getfield 443, 3) := by decide +kernel
theorem dX12_channelPacket_204 : decode cX12_channelPacket 204 = .ok (.bipush 40, 2) := by decide +kernel
theorem dX12_channelPacket_206 : decode cX12_channelPacket 206 = .ok (.bipush 8, 2) := by decide +kernel
theorem dX12_channelPacket_208 : decode cX12_channelPacket 208 = .ok (.iload 9, 2) := by decide +kernel
theorem dX12_channelPacket_210 : decode cX12_channelPacket 210 = .ok (.imul, 1) := by decide +kernel
theorem dX12_channelPacket_211 : decode cX12_channelPacket 211 = .ok (.isub, 1) := by decide +kernel
theorem dX12_channelPacket_212 : decode cX12_channelPacket 212 = .ok (.lshr, 1) := by decide +kernel
theorem dX12_channelPacket_213 : decode cX12_channelPacket 213 = .ok (.ldc2_w 446, 3) := by decide +kernel
theorem dX12_channelPacket_216 : decode cX12_channelPacket 216 = .ok (.land, 1) := by decide +kernel
theorem dX12_channelPacket_217 : decode cX12_channelPacket 217 = .ok (.l2i, 1) := by decide +kernel
theorem dX12_channelPacket_218 : decode cX12_channelPacket 218 = .ok (.iastore, 1) := by decide +kernel
theorem dX12_channelPacket_219 : decode cX12_channelPacket 219 = .ok (.iinc 9 1, 3) := by decide +kernel
theorem dX12_channelPacket_222 : decode cX12_channelPacket 222 = .ok (.goto (-42), 3) := by decide +kernel
theorem dX12_channelPacket_225 : decode cX12_channelPacket 225 = .ok (.iload_n 2, 1) := by decide +kernel
theorem dX12_channelPacket_226 : decode cX12_channelPacket 226 = .ok (.iconst (-1), 1) := by decide +kernel
theorem dX12_channelPacket_227 : decode cX12_channelPacket 227 = .ok (.if_icmp .ne 7, 3) := by decide +kernel
theorem dX12_channelPacket_230 : decode cX12_channelPacket 230 = .ok (.iconst 0, 1) := by decide +kernel
theorem dX12_channelPacket_231 : decode cX12_channelPacket 231 = .ok (.goto 24, 3) := by decide +kernel
theorem dX12_channelPacket_234 : decode cX12_channelPacket 234 = .ok (.bipush 9, 2) := by decide +kernel
theorem dX12_channelPacket_236 : decode cX12_channelPacket 236 = .ok (.iload_n 1, 1) := by decide +kernel
theorem dX12_channelPacket_237 : decode cX12_channelPacket 237 = .ok (.imul, 1) := by decide +kernel
theorem dX12_channelPacket_238 : decode cX12_channelPacket 238 = .ok (.iload_n 2, 1) := by decide +kernel
theorem dX12_channelPacket_239 : decode cX12_channelPacket 239 = .ok (.bipush 9, 2) := by decide +kernel
theorem dX12_channelPacket_241 : decode cX12_channelPacket 241 = .ok (.irem, 1) := by decide +kernel
theorem dX12_channelPacket_242 : decode cX12_channelPacket 242 = .ok (.iadd, 1) := by decide +kernel
theorem dX12_channelPacket_243 : decode cX12_channelPacket 243 = .ok (.sipush 3014, 3) := by decide +kernel
theorem dX12_channelPacket_246 : decode cX12_channelPacket 246 = .ok (.imul, 1) := by decide +kernel
theorem dX12_channelPacket_247 : decode cX12_channelPacket 247 = .ok (.aload_n 0, 1) := by decide +kernel
theorem dX12_channelPacket_248 : decode cX12_channelPacket 248 = .ok (.getfield 140, 3) := by decide +kernel
theorem dX12_channelPacket_251 : decode cX12_channelPacket 251 = .ok (.iload 5, 2) := by decide +kernel
theorem dX12_channelPacket_253 : decode cX12_channelPacket 253 = .ok (.iaload, 1) := by decide +kernel
theorem dX12_channelPacket_254 : decode cX12_channelPacket 254 = .ok (.iadd, 1) := by decide +kernel
theorem dX12_channelPacket_255 : decode cX12_channelPacket 255 = .ok (.istore 9, 2) := by decide +kernel
theorem dX12_channelPacket_257 : decode cX12_channelPacket 257 = .ok (.iconst 0, 1) := by decide +kernel
theorem dX12_channelPacket_258 : decode cX12_channelPacket 258 = .ok (.istore 10, 2) := by decide +kernel
theorem dX12_channelPacket_260 : decode cX12_channelPacket 260 = .ok (.iload 10, 2) := by decide +kernel
theorem dX12_channelPacket_262 : decode cX12_channelPacket 262 = .ok (.iload 4, 2) := by decide +kernel
theorem dX12_channelPacket_264 : decode cX12_channelPacket 264 = .ok (.if_icmp .ge 35, 3) := by decide +kernel
theorem dX12_channelPacket_267 : decode cX12_channelPacket 267 = .ok (.aload_n 0, 1) := by decide +kernel
theorem dX12_channelPacket_268 : decode cX12_channelPacket 268 = .ok (.getfield 161, 3) := by decide +kernel
theorem dX12_channelPacket_271 : decode cX12_channelPacket 271 = .ok (.iconst 4, 1) := by decide +kernel
theorem dX12_channelPacket_272 : decode cX12_channelPacket 272 = .ok (.iload 8, 2) := by decide +kernel
theorem dX12_channelPacket_274 : decode cX12_channelPacket 274 = .ok (.iadd, 1) := by decide +kernel
theorem dX12_channelPacket_275 : decode cX12_channelPacket 275 = .ok (.iload 10, 2) := by decide +kernel
theorem dX12_channelPacket_277 : decode cX12_channelPacket 277 = .ok (.iadd, 1) := by decide +kernel
theorem dX12_channelPacket_278 : decode cX12_channelPacket 278 = .ok (.aload_n 0, 1) := by decide +kernel
theorem dX12_channelPacket_279 : decode cX12_channelPacket 279 = .ok (.getfield 147, 3) := by decide +kernel
theorem dX12_channelPacket_282 : decode cX12_channelPacket 282 = .ok (.iload 9, 2) := by decide +kernel
theorem dX12_channelPacket_284 : decode cX12_channelPacket 284 = .ok (.iload 10, 2) := by decide +kernel
theorem dX12_channelPacket_286 : decode cX12_channelPacket 286 = .ok (.iadd, 1) := by decide +kernel
theorem dX12_channelPacket_287 : decode cX12_channelPacket 287 = .ok (.baload, 1) := by decide +kernel
theorem dX12_channelPacket_288 : decode cX12_channelPacket 288 = .ok (.sipush 255, 3) := by decide +kernel
theorem dX12_channelPacket_291 : decode cX12_channelPacket 291 = .ok (.iand, 1) := by decide +kernel
theorem dX12_channelPacket_292 : decode cX12_channelPacket 292 = .ok (.iastore, 1) := by decide +kernel
theorem dX12_channelPacket_293 : decode cX12_channelPacket 293 = .ok (.iinc 10 1, 3) := by decide +kernel
theorem dX12_channelPacket_296 : decode cX12_channelPacket 296 = .ok (.goto (-36), 3) := by decide +kernel
theorem dX12_channelPacket_299 : decode cX12_channelPacket 299 = .ok (.iload_n 2, 1) := by decide +kernel
theorem dX12_channelPacket_300 : decode cX12_channelPacket 300 = .ok (.iconst (-1), 1) := by decide +kernel
theorem dX12_channelPacket_301 : decode cX12_channelPacket 301 = .ok (.if_icmp .eq 66, 3) := by decide +kernel
theorem dX12_channelPacket_304 : decode cX12_channelPacket 304 = .ok (.aload_n 0, 1) := by decide +kernel
theorem dX12_channelPacket_305 : decode cX12_channelPacket 305 = .ok (.getfield 140, 3) := by decide +kernel
theorem dX12_channelPacket_308 : decode cX12_channelPacket 308 = .ok (.iload 5, 2) := by decide +kernel
theorem dX12_channelPacket_310 : decode cX12_channelPacket 310 = .ok (.dup2, 1) := by decide +kernel
theorem dX12_channelPacket_311 : decode cX12_channelPacket 311 = .ok (.iaload, 1) := by decide +kernel
theorem dX12_channelPacket_312 : decode cX12_channelPacket 312 = .ok (.iload 4, 2) := by decide +kernel
theorem dX12_channelPacket_314 : decode cX12_channelPacket 314 = .ok (.iadd, 1) := by decide +kernel
theorem dX12_channelPacket_315 : decode cX12_channelPacket 315 = .ok (.iastore, 1) := by decide +kernel
theorem dX12_channelPacket_316 : decode cX12_channelPacket 316 = .ok (.aload_n 0, 1) := by decide +kernel
theorem dX12_channelPacket_317 : decode cX12_channelPacket 317 = .ok (.getfield 143, 3) := by decide +kernel
theorem dX12_channelPacket_320 : decode cX12_channelPacket 320 = .ok (.iload 5, 2) := by decide +kernel
theorem dX12_channelPacket_322 : decode cX12_channelPacket 322 = .ok (.dup2, 1) := by decide +kernel
theorem dX12_channelPacket_323 : decode cX12_channelPacket 323 = .ok (.iaload, 1) := by decide +kernel
theorem dX12_channelPacket_324 : decode cX12_channelPacket 324 = .ok (.iload 4, 2) := by decide +kernel
theorem dX12_channelPacket_326 : decode cX12_channelPacket 326 = .ok (.iadd, 1) := by decide +kernel
theorem dX12_channelPacket_327 : decode cX12_channelPacket 327 = .ok (.iastore, 1) := by decide +kernel
theorem dX12_channelPacket_328 : decode cX12_channelPacket 328 = .ok (.aload_n 0, 1) := by decide +kernel
theorem dX12_channelPacket_329 : decode cX12_channelPacket 329 = .ok (.getfield 140, 3) := by decide +kernel
theorem dX12_channelPacket_332 : decode cX12_channelPacket 332 = .ok (.iload 5, 2) := by decide +kernel
theorem dX12_channelPacket_334 : decode cX12_channelPacket 334 = .ok (.iaload, 1) := by decide +kernel
theorem dX12_channelPacket_335 : decode cX12_channelPacket 335 = .ok (.bipush 14, 2) := by decide +kernel
theorem dX12_channelPacket_337 : decode cX12_channelPacket 337 = .ok (.aload_n 0, 1) := by decide +kernel
theorem dX12_channelPacket_338 : decode cX12_channelPacket 338 = .ok (.getfield 131, 3) := by decide +kernel
theorem dX12_channelPacket_341 : decode cX12_channelPacket 341 = .ok (.iload 5, 2) := by decide +kernel
theorem dX12_channelPacket_343 : decode cX12_channelPacket 343 = .ok (.iaload, 1) := by decide +kernel
theorem dX12_channelPacket_344 : decode cX12_channelPacket 344 = .ok (.iadd, 1) := by decide +kernel
theorem dX12_channelPacket_345 : decode cX12_channelPacket 345 = .ok (.if_icmp .ne 22, 3) := by decide +kernel
theorem dX12_channelPacket_348 : decode cX12_channelPacket 348 = .ok (.aload_n 0, 1) := by decide +kernel
theorem dX12_channelPacket_349 : decode cX12_channelPacket 349 = .ok (.getfield 128, 3) := by decide +kernel
theorem dX12_channelPacket_352 : decode cX12_channelPacket 352 = .ok (.iload 5, 2) := by decide +kernel
theorem dX12_channelPacket_354 : decode cX12_channelPacket 354 = .ok (.iconst 2, 1) := by decide +kernel
theorem dX12_channelPacket_355 : decode cX12_channelPacket 355 = .ok (.iastore, 1) := by decide +kernel
theorem dX12_channelPacket_356 : decode cX12_channelPacket 356 = .ok (.aload_n 0, 1) := by decide +kernel
theorem dX12_channelPacket_357 : decode cX12_channelPacket 357 = .ok (.getfield 137, 3) := by decide +kernel
theorem dX12_channelPacket_360 : decode cX12_channelPacket 360 = .ok (.iload 5, 2) := by decide +kernel
theorem dX12_channelPacket_362 : decode cX12_channelPacket 362 = .ok (.aload_n 0, 1) := by decide +kernel
theorem dX12_channelPacket_363 : decode cX12_channelPacket 363 = .ok (.getfield 437, 3) := by decide +kernel
theorem dX12_channelPacket_366 : decode cX12_channelPacket 366 = .ok (.iastore, 1) := by decide +kernel
theorem dX12_channelPacket_367 : decode cX12_channelPacket 367 = .ok (.aload_n 0, 1) := by decide +kernel
theorem dX12_channelPacket_368 : decode cX12_channelPacket 368 = .ok (.invokevirtual 419, 3) := by decide +kernel
theorem dX12_channelPacket_371 : decode cX12_channelPacket 371 = .ok (.return_, 1) := by decide +kernel
theorem dX12_clockBytes_0 : decode cX12_clockBytes 0 = .ok (.ldc2_w 448, 3) := by decide +kernel
theorem dX12_clockBytes_3 : decode cX12_clockBytes 3 = .ok (.aload_n 0, 1) := by decide +kernel
theorem dX12_clockBytes_4 : decode cX12_clockBytes 4 = .ok (.getfield 282, 3) := by decide +kernel
theorem dX12_clockBytes_7 : decode cX12_clockBytes 7 = .ok (.lmul, 1) := by decide +kernel
theorem dX12_clockBytes_8 : decode cX12_clockBytes 8 = .ok (.ldc2_w 450, 3) := by decide +kernel
theorem dX12_clockBytes_11 : decode cX12_clockBytes 11 = .ok (.iload_n 1, 1) := by decide +kernel
theorem dX12_clockBytes_12 : decode cX12_clockBytes 12 = .ok (.i2l, 1) := by decide +kernel
theorem dX12_clockBytes_13 : decode cX12_clockBytes 13 = .ok (.lmul, 1) := by decide +kernel
theorem dX12_clockBytes_14 : decode cX12_clockBytes 14 = .ok (.aload_n 0, 1) := by decide +kernel
theorem dX12_clockBytes_15 : decode cX12_clockBytes 15 = .ok (.getfield 275, 3) := by decide +kernel
theorem dX12_clockBytes_18 : decode cX12_clockBytes 18 = .ok (.i2l, 1) := by decide +kernel
theorem dX12_clockBytes_19 : decode cX12_clockBytes 19 = .ok (.ldiv, 1) := by decide +kernel
theorem dX12_clockBytes_20 : decode cX12_clockBytes 20 = .ok (.ladd, 1) := by decide +kernel
theorem dX12_clockBytes_21 : decode cX12_clockBytes 21 = .ok (.ldc2_w 452, 3) := by decide +kernel
theorem dX12_clockBytes_24 : decode cX12_clockBytes 24 = .ok (.lrem, 1) := by decide +kernel
theorem dX12_clockBytes_25 : decode cX12_clockBytes 25 = .ok (.lstore_n 2, 1) := by decide +kernel
theorem dX12_clockBytes_26 : decode cX12_clockBytes 26 = .ok (.aload_n 0, 1) := by decide +kernel
theorem dX12_clockBytes_27 : decode cX12_clockBytes 27 = .ok (.lload_n 2, 1) := by decide +kernel
theorem dX12_clockBytes_28 : decode cX12_clockBytes 28 = .ok (.ldc2_w 448, 3) := by decide +kernel
theorem dX12_clockBytes_31 : decode cX12_clockBytes 31 = .ok (.ldiv, 1) := by decide +kernel
theorem dX12_clockBytes_32 : decode cX12_clockBytes 32 = .ok (.bipush 15, 2) := by decide +kernel
theorem dX12_clockBytes_34 : decode cX12_clockBytes 34 = .ok (.lshl, 1) := by decide +kernel
theorem dX12_clockBytes_35 : decode cX12_clockBytes 35 = .ok (.ldc2_w 454, 3) := by decide +kernel
theorem dX12_clockBytes_38 : decode cX12_clockBytes 38 = .ok (.lor, 1) := by decide +kernel
theorem dX12_clockBytes_39 : decode cX12_clockBytes 39 = .ok (.lload_n 2, 1) := by decide +kernel
theorem dX12_clockBytes_40 : decode cX12_clockBytes 40 = .ok (.ldc2_w 448, 3) := by decide +kernel
theorem dX12_clockBytes_43 : decode cX12_clockBytes 43 = .ok (.lrem, 1) := by decide +kernel
theorem dX12_clockBytes_44 : decode cX12_clockBytes 44 = .ok (.lor, 1) := by decide +kernel
theorem dX12_clockBytes_45 : decode cX12_clockBytes 45 = .ok (.putfield 443, 3) := by decide +kernel
theorem dX12_clockBytes_48 : decode cX12_clockBytes 48 = .ok (.return_, 1) := by decide +kernel
theorem dX12_packets_0 : decode cX12_packets 0 = .ok (.aload_n 0, 1) := by decide +kernel
theorem dX12_packets_1 : decode cX12_packets 1 = .ok (.getfield 275, 3) := by decide +kernel
theorem dX12_packets_4 : decode cX12_packets 4 = .ok (.iload_n 1, 1) := by decide +kernel
theorem dX12_packets_5 : decode cX12_packets 5 = .ok (.iconst 1, 1) := by decide +kernel
theorem dX12_packets_6 : decode cX12_packets 6 = .ok (.iadd, 1) := by decide +kernel
theorem dX12_packets_7 : decode cX12_packets 7 = .ok (.imul, 1) := by decide +kernel
theorem dX12_packets_8 : decode cX12_packets 8 = .ok (.istore_n 2, 1) := by decide +kernel
theorem dX12_packets_9 : decode cX12_packets 9 = .ok (.iload_n 1, 1) := by decide +kernel
theorem dX12_packets_10 : decode cX12_packets 10 = .ok (.iconst 4, 1) := by decide +kernel
theorem dX12_packets_11 : decode cX12_packets 11 = .ok (.irem, 1) := by decide +kernel
theorem dX12_packets_12 : decode cX12_packets 12 = .ok (.ifCond .ne 34, 3) := by decide +kernel
theorem dX12_packets_15 : decode cX12_packets 15 = .ok (.aload_n 0, 1) := by decide +kernel
theorem dX12_packets_16 : decode cX12_packets 16 = .ok (.invokevirtual 456, 3) := by decide +kernel
theorem dX12_packets_19 : decode cX12_packets 19 = .ok (.iconst 0, 1) := by decide +kernel
theorem dX12_packets_20 : decode cX12_packets 20 = .ok (.istore_n 3, 1) := by decide +kernel
theorem dX12_packets_21 : decode cX12_packets 21 = .ok (.iload_n 3, 1) := by decide +kernel
theorem dX12_packets_22 : decode cX12_packets 22 = .ok (.iconst 3, 1) := by decide +kernel
theorem dX12_packets_23 : decode cX12_packets 23 = .ok (.if_icmp .ge 23, 3) := by decide +kernel
theorem dX12_packets_26 : decode cX12_packets 26 = .ok (.aload_n 0, 1) := by decide +kernel
theorem dX12_packets_27 : decode cX12_packets 27 = .ok (.getfield 125, 3) := by decide +kernel
theorem dX12_packets_30 : decode cX12_packets 30 = .ok (.iload_n 3, 1) := by decide +kernel
theorem dX12_packets_31 : decode cX12_packets 31 = .ok (.baload, 1) := by decide +kernel
theorem dX12_packets_32 : decode cX12_packets 32 = .ok (.ifCond .eq 8, 3) := by decide +kernel
theorem dX12_packets_35 : decode cX12_packets 35 = .ok (.aload_n 0, 1) := by decide +kernel
theorem dX12_packets_36 : decode cX12_packets 36 = .ok (.iload_n 3, 1) := by decide +kernel
theorem dX12_packets_37 : decode cX12_packets 37 = .ok (.invokevirtual 459, 3) := by decide +kernel
theorem dX12_packets_40 : decode cX12_packets 40 = .ok (.iinc 3 1, 3) := by decide +kernel
theorem dX12_packets_43 : decode cX12_packets 43 = .ok (.goto (-22), 3) := by decide +kernel
theorem dX12_packets_46 : decode cX12_packets 46 = .ok (.iconst 0, 1) := by decide +kernel
theorem dX12_packets_47 : decode cX12_packets 47 = .ok (.istore_n 3, 1) := by decide +kernel
theorem dX12_packets_48 : decode cX12_packets 48 = .ok (.iload_n 3, 1) := by decide +kernel
theorem dX12_packets_49 : decode cX12_packets 49 = .ok (.iconst 3, 1) := by decide +kernel
theorem dX12_packets_50 : decode cX12_packets 50 = .ok (.if_icmp .ge 31, 3) := by decide +kernel
theorem dX12_packets_53 : decode cX12_packets 53 = .ok (.aload_n 0, 1) := by decide +kernel
theorem dX12_packets_54 : decode cX12_packets 54 = .ok (.getfield 125, 3) := by decide +kernel
theorem dX12_packets_57 : decode cX12_packets 57 = .ok (.iload_n 3, 1) := by decide +kernel
theorem dX12_packets_58 : decode cX12_packets 58 = .ok (.baload, 1) := by decide +kernel
theorem dX12_packets_59 : decode cX12_packets 59 = .ok (.ifCond .eq 16, 3) := by decide +kernel
theorem dX12_packets_62 : decode cX12_packets 62 = .ok (.aload_n 0, 1) := by decide +kernel
theorem dX12_packets_63 : decode cX12_packets 63 = .ok (.iload_n 3, 1) := by decide +kernel
theorem dX12_packets_64 : decode cX12_packets 64 = .ok (.aload_n 0, 1) := by decide +kernel
theorem dX12_packets_65 : decode cX12_packets 65 = .ok (.iload_n 3, 1) := by decide +kernel
theorem dX12_packets_66 : decode cX12_packets 66 = .ok (.iload_n 1, 1) := by decide +kernel
theorem dX12_packets_67 : decode cX12_packets 67 = .ok (.iconst 1, 1) := by decide +kernel
theorem dX12_packets_68 : decode cX12_packets 68 = .ok (.invokevirtual 462, 3) := by decide +kernel
theorem dX12_packets_71 : decode cX12_packets 71 = .ok (.iconst 1, 1) := by decide +kernel
theorem dX12_packets_72 : decode cX12_packets 72 = .ok (.invokevirtual 465, 3) := by decide +kernel
theorem dX12_packets_75 : decode cX12_packets 75 = .ok (.iinc 3 1, 3) := by decide +kernel
theorem dX12_packets_78 : decode cX12_packets 78 = .ok (.goto (-30), 3) := by decide +kernel
theorem dX12_packets_81 : decode cX12_packets 81 = .ok (.aload_n 0, 1) := by decide +kernel
theorem dX12_packets_82 : decode cX12_packets 82 = .ok (.getfield 437, 3) := by decide +kernel
theorem dX12_packets_85 : decode cX12_packets 85 = .ok (.iload_n 2, 1) := by decide +kernel
theorem dX12_packets_86 : decode cX12_packets 86 = .ok (.if_icmp .ge 78, 3) := by decide +kernel
theorem dX12_packets_89 : decode cX12_packets 89 = .ok (.iconst (-1), 1) := by decide +kernel
theorem dX12_packets_90 : decode cX12_packets 90 = .ok (.istore_n 3, 1) := by decide +kernel
theorem dX12_packets_91 : decode cX12_packets 91 = .ok (.sipush 3000, 3) := by decide +kernel
theorem dX12_packets_94 : decode cX12_packets 94 = .ok (.istore 4, 2) := by decide +kernel
theorem dX12_packets_96 : decode cX12_packets 96 = .ok (.iconst 0, 1) := by decide +kernel
theorem dX12_packets_97 : decode cX12_packets 97 = .ok (.istore 5, 2) := by decide +kernel
theorem dX12_packets_99 : decode cX12_packets 99 = .ok (.iload 5, 2) := by decide +kernel
theorem dX12_packets_101 : decode cX12_packets 101 = .ok (.iconst 3, 1) := by decide +kernel
theorem dX12_packets_102 : decode cX12_packets 102 = .ok (.if_icmp .ge 39, 3) := by decide +kernel
theorem dX12_packets_105 : decode cX12_packets 105 = .ok (.aload_n 0, 1) := by decide +kernel
theorem dX12_packets_106 : decode cX12_packets 106 = .ok (.iload 5, 2) := by decide +kernel
theorem dX12_packets_108 : decode cX12_packets 108 = .ok (.iload_n 1, 1) := by decide +kernel
theorem dX12_packets_109 : decode cX12_packets 109 = .ok (.iconst 0, 1) := by decide +kernel
theorem dX12_packets_110 : decode cX12_packets 110 = .ok (.invokevirtual 462, 3) := by decide +kernel
theorem dX12_packets_113 : decode cX12_packets 113 = .ok (.istore 6, 2) := by decide +kernel
theorem dX12_packets_115 : decode cX12_packets 115 = .ok (.iload 6, 2) := by decide +kernel
theorem dX12_packets_117 : decode cX12_packets 117 = .ok (.iconst (-1), 1) := by decide +kernel
theorem dX12_packets_118 : decode cX12_packets 118 = .ok (.if_icmp .eq 17, 3) := by decide +kernel
theorem dX12_packets_121 : decode cX12_packets 121 = .ok (.iload 6, 2) := by decide +kernel
theorem dX12_packets_123 : decode cX12_packets 123 = .ok (.iload 4, 2) := by decide +kernel
theorem dX12_packets_125 : decode cX12_packets 125 = .ok (.if_icmp .ge 10, 3) := by decide +kernel
theorem dX12_packets_128 : decode cX12_packets 128 = .ok (.iload 5, 2) := by decide +kernel
theorem dX12_packets_130 : decode cX12_packets 130 = .ok (.istore_n 3, 1) := by decide +kernel
theorem dX12_packets_131 : decode cX12_packets 131 = .ok (.iload 6, 2) := by decide +kernel
theorem dX12_packets_133 : decode cX12_packets 133 = .ok (.istore 4, 2) := by decide +kernel
theorem dX12_packets_135 : decode cX12_packets 135 = .ok (.iinc 5 1, 3) := by decide +kernel
theorem dX12_packets_138 : decode cX12_packets 138 = .ok (.goto (-39), 3) := by decide +kernel
theorem dX12_packets_141 : decode cX12_packets 141 = .ok (.iload_n 3, 1) := by decide +kernel
theorem dX12_packets_142 : decode cX12_packets 142 = .ok (.iconst (-1), 1) := by decide +kernel
theorem dX12_packets_143 : decode cX12_packets 143 = .ok (.if_icmp .ne 10, 3) := by decide +kernel
theorem dX12_packets_146 : decode cX12_packets 146 = .ok (.aload_n 0, 1) := by decide +kernel
theorem dX12_packets_147 : decode cX12_packets 147 = .ok (.invokevirtual 469, 3) := by decide +kernel
theorem dX12_packets_150 : decode cX12_packets 150 = .ok (.goto 11, 3) := by decide +kernel
theorem dX12_packets_153 : decode cX12_packets 153 = .ok (.aload_n 0, 1) := by decide +kernel
theorem dX12_packets_154 : decode cX12_packets 154 = .ok (.iload_n 3, 1) := by decide +kernel
theorem dX12_packets_155 : decode cX12_packets 155 = .ok (.iload 4, 2) := by decide +kernel
theorem dX12_packets_157 : decode cX12_packets 157 = .ok (.iconst 0, 1) := by decide +kernel
theorem dX12_packets_158 : decode cX12_packets 158 = .ok (.invokevirtual 465, 3) := by decide +kernel
theorem dX12_packets_161 : decode cX12_packets 161 = .ok (.goto (-80), 3) := by decide +kernel
theorem dX12_packets_164 : decode cX12_packets 164 = .ok (.return_, 1) := by decide +kernel
theorem dX12_tick_0 : decode cX12_tick 0 = .ok (.iload_n 1, 1) := by decide +kernel
theorem dX12_tick_1 : decode cX12_tick 1 = .ok (.i2l, 1) := by decide +kernel
theorem dX12_tick_2 : decode cX12_tick 2 = .ok (.lconst 1, 1) := by decide +kernel
theorem dX12_tick_3 : decode cX12_tick 3 = .ok (.ldc2_w 293, 3) := by decide +kernel
theorem dX12_tick_6 : decode cX12_tick 6 = .ok (.invokestatic 287, 3) := by decide +kernel
theorem dX12_tick_9 : decode cX12_tick 9 = .ok (.ifCond .ne 6, 3) := by decide +kernel
theorem dX12_tick_12 : decode cX12_tick 12 = .ok (.bipush (-2), 2) := by decide +kernel
theorem dX12_tick_14 : decode cX12_tick 14 = .ok (.ireturn, 1) := by decide +kernel
theorem dX12_tick_15 : decode cX12_tick 15 = .ok (.aload_n 0, 1) := by decide +kernel
theorem dX12_tick_16 : decode cX12_tick 16 = .ok (.getfield 314, 3) := by decide +kernel
theorem dX12_tick_19 : decode cX12_tick 19 = .ok (.iload_n 1, 1) := by decide +kernel
theorem dX12_tick_20 : decode cX12_tick 20 = .ok (.iadd, 1) := by decide +kernel
theorem dX12_tick_21 : decode cX12_tick 21 = .ok (.sipush 3000, 3) := by decide +kernel
theorem dX12_tick_24 : decode cX12_tick 24 = .ok (.if_icmp .le 6, 3) := by decide +kernel
theorem dX12_tick_27 : decode cX12_tick 27 = .ok (.bipush (-3), 2) := by decide +kernel
theorem dX12_tick_29 : decode cX12_tick 29 = .ok (.ireturn, 1) := by decide +kernel
theorem dX12_tick_30 : decode cX12_tick 30 = .ok (.iconst 0, 1) := by decide +kernel
theorem dX12_tick_31 : decode cX12_tick 31 = .ok (.istore_n 2, 1) := by decide +kernel
theorem dX12_tick_32 : decode cX12_tick 32 = .ok (.iload_n 2, 1) := by decide +kernel
theorem dX12_tick_33 : decode cX12_tick 33 = .ok (.iload_n 1, 1) := by decide +kernel
theorem dX12_tick_34 : decode cX12_tick 34 = .ok (.if_icmp .ge 57, 3) := by decide +kernel
theorem dX12_tick_37 : decode cX12_tick 37 = .ok (.iconst 0, 1) := by decide +kernel
theorem dX12_tick_38 : decode cX12_tick 38 = .ok (.istore_n 3, 1) := by decide +kernel
theorem dX12_tick_39 : decode cX12_tick 39 = .ok (.iload_n 3, 1) := by decide +kernel
theorem dX12_tick_40 : decode cX12_tick 40 = .ok (.iconst 3, 1) := by decide +kernel
theorem dX12_tick_41 : decode cX12_tick 41 = .ok (.if_icmp .ge 18, 3) := by decide +kernel
theorem dX12_tick_44 : decode cX12_tick 44 = .ok (.aload_n 0, 1) := by decide +kernel
theorem dX12_tick_45 : decode cX12_tick 45 = .ok (.iload_n 3, 1) := by decide +kernel
theorem dX12_tick_46 : decode cX12_tick 46 = .ok (.aload_n 0, 1) := by decide +kernel
theorem dX12_tick_47 : decode cX12_tick 47 = .ok (.getfield 314, 3) := by decide +kernel
theorem dX12_tick_50 : decode cX12_tick 50 = .ok (.invokevirtual 472, 3) := by decide +kernel
theorem dX12_tick_53 : decode cX12_tick 53 = .ok (.iinc 3 1, 3) := by decide +kernel
theorem dX12_tick_56 : decode cX12_tick 56 = .ok (.goto (-17), 3) := by decide +kernel
theorem dX12_tick_59 : decode cX12_tick 59 = .ok (.aload_n 0, 1) := by decide +kernel
theorem dX12_tick_60 : decode cX12_tick 60 = .ok (.aload_n 0, 1) := by decide +kernel
theorem dX12_tick_61 : decode cX12_tick 61 = .ok (.getfield 314, 3) := by decide +kernel
theorem dX12_tick_64 : decode cX12_tick 64 = .ok (.invokevirtual 475, 3) := by decide +kernel
theorem dX12_tick_67 : decode cX12_tick 67 = .ok (.aload_n 0, 1) := by decide +kernel
theorem dX12_tick_68 : decode cX12_tick 68 = .ok (.aload_n 0, 1) := by decide +kernel
theorem dX12_tick_69 : decode cX12_tick 69 = .ok (.getfield 314, 3) := by decide +kernel
theorem dX12_tick_72 : decode cX12_tick 72 = .ok (.invokevirtual 478, 3) := by decide +kernel
theorem dX12_tick_75 : decode cX12_tick 75 = .ok (.aload_n 0, 1) := by decide +kernel
theorem dX12_tick_76 : decode cX12_tick 76 = .ok (.dup, 1) := by decide +kernel
theorem dX12_tick_77 : decode cX12_tick 77 = .ok (.getfield 314, 3) := by decide +kernel
theorem dX12_tick_80 : decode cX12_tick 80 = .ok (.iconst 1, 1) := by decide +kernel
theorem dX12_tick_81 : decode cX12_tick 81 = .ok (.iadd, 1) := by decide +kernel
theorem dX12_tick_82 : decode cX12_tick 82 = .ok (.putfield 314, 3) := by decide +kernel
theorem dX12_tick_85 : decode cX12_tick 85 = .ok (.iinc 2 1, 3) := by decide +kernel
theorem dX12_tick_88 : decode cX12_tick 88 = .ok (.goto (-56), 3) := by decide +kernel
theorem dX12_tick_91 : decode cX12_tick 91 = .ok (.aload_n 0, 1) := by decide +kernel
theorem dX12_tick_92 : decode cX12_tick 92 = .ok (.getfield 314, 3) := by decide +kernel
theorem dX12_tick_95 : decode cX12_tick 95 = .ok (.ireturn, 1) := by decide +kernel
theorem dX12_lines_0 : decode cX12_lines 0 = .ok (.iload_n 1, 1) := by decide +kernel
theorem dX12_lines_1 : decode cX12_lines 1 = .ok (.i2l, 1) := by decide +kernel
theorem dX12_lines_2 : decode cX12_lines 2 = .ok (.lconst 1, 1) := by decide +kernel
theorem dX12_lines_3 : decode cX12_lines 3 = .ok (.ldc2_w 481, 3) := by decide +kernel
theorem dX12_lines_6 : decode cX12_lines 6 = .ok (.invokestatic 287, 3) := by decide +kernel
theorem dX12_lines_9 : decode cX12_lines 9 = .ok (.ifCond .eq 15, 3) := by decide +kernel
theorem dX12_lines_12 : decode cX12_lines 12 = .ok (.iload_n 2, 1) := by decide +kernel
theorem dX12_lines_13 : decode cX12_lines 13 = .ok (.i2l, 1) := by decide +kernel
theorem dX12_lines_14 : decode cX12_lines 14 = .ok (.lconst 1, 1) := by decide +kernel
theorem dX12_lines_15 : decode cX12_lines 15 = .ok (.ldc2_w 481, 3) := by decide +kernel
theorem dX12_lines_18 : decode cX12_lines 18 = .ok (.invokestatic 287, 3) := by decide +kernel
theorem dX12_lines_21 : decode cX12_lines 21 = .ok (.ifCond .ne 6, 3) := by decide +kernel
theorem dX12_lines_24 : decode cX12_lines 24 = .ok (.bipush (-2), 2) := by decide +kernel
theorem dX12_lines_26 : decode cX12_lines 26 = .ok (.ireturn, 1) := by decide +kernel
theorem dX12_lines_27 : decode cX12_lines 27 = .ok (.aload_n 0, 1) := by decide +kernel
theorem dX12_lines_28 : decode cX12_lines 28 = .ok (.iload_n 1, 1) := by decide +kernel
theorem dX12_lines_29 : decode cX12_lines 29 = .ok (.putfield 167, 3) := by decide +kernel
theorem dX12_lines_32 : decode cX12_lines 32 = .ok (.aload_n 0, 1) := by decide +kernel
theorem dX12_lines_33 : decode cX12_lines 33 = .ok (.iload_n 2, 1) := by decide +kernel
theorem dX12_lines_34 : decode cX12_lines 34 = .ok (.putfield 170, 3) := by decide +kernel
theorem dX12_lines_37 : decode cX12_lines 37 = .ok (.iconst 1, 1) := by decide +kernel
theorem dX12_lines_38 : decode cX12_lines 38 = .ok (.ireturn, 1) := by decide +kernel
theorem dX12_isAhead_0 : decode cX12_isAhead 0 = .ok (.iload_n 1, 1) := by decide +kernel
theorem dX12_isAhead_1 : decode cX12_isAhead 1 = .ok (.ifCond .ne 19, 3) := by decide +kernel
theorem dX12_isAhead_4 : decode cX12_isAhead 4 = .ok (.iload_n 2, 1) := by decide +kernel
theorem dX12_isAhead_5 : decode cX12_isAhead 5 = .ok (.aload_n 0, 1) := by decide +kernel
theorem dX12_isAhead_6 : decode cX12_isAhead 6 = .ok (.getfield 437, 3) := by decide +kernel
theorem dX12_isAhead_9 : decode cX12_isAhead 9 = .ok (.if_icmp .lt 7, 3) := by decide +kernel
theorem dX12_isAhead_12 : decode cX12_isAhead 12 = .ok (.iconst 1, 1) := by decide +kernel
theorem dX12_isAhead_13 : decode cX12_isAhead 13 = .ok (.goto 20, 3) := by decide +kernel
theorem dX12_isAhead_16 : decode cX12_isAhead 16 = .ok (.iconst 0, 1) := by decide +kernel
theorem dX12_isAhead_17 : decode cX12_isAhead 17 = .ok (.goto 16, 3) := by decide +kernel
theorem dX12_isAhead_20 : decode cX12_isAhead 20 = .ok (.iload_n 2, 1) := by decide +kernel
theorem dX12_isAhead_21 : decode cX12_isAhead 21 = .ok (.aload_n 0, 1) := by decide +kernel
theorem dX12_isAhead_22 : decode cX12_isAhead 22 = .ok (.getfield 483, 3) := by decide +kernel
theorem dX12_isAhead_25 : decode cX12_isAhead 25 = .ok (.if_icmp .lt 7, 3) := by decide +kernel
theorem dX12_isAhead_28 : decode cX12_isAhead 28 = .ok (.iconst 1, 1) := by decide +kernel
theorem dX12_isAhead_29 : decode cX12_isAhead 29 = .ok (.goto 4, 3) := by decide +kernel
theorem dX12_isAhead_32 : decode cX12_isAhead 32 = .ok (.iconst 0, 1) := by decide +kernel
theorem dX12_isAhead_33 : decode cX12_isAhead 33 = .ok (.ireturn, 1) := by decide +kernel
theorem dX12_lose_0 : decode cX12_lose 0 = .ok (.iload_n 1, 1) := by decide +kernel
theorem dX12_lose_1 : decode cX12_lose 1 = .ok (.i2l, 1) := by decide +kernel
theorem dX12_lose_2 : decode cX12_lose 2 = .ok (.lconst 0, 1) := by decide +kernel
theorem dX12_lose_3 : decode cX12_lose 3 = .ok (.ldc2_w 353, 3) := by decide +kernel
theorem dX12_lose_6 : decode cX12_lose 6 = .ok (.invokestatic 287, 3) := by decide +kernel
theorem dX12_lose_9 : decode cX12_lose 9 = .ok (.ifCond .eq 36, 3) := by decide +kernel
theorem dX12_lose_12 : decode cX12_lose 12 = .ok (.aload_n 0, 1) := by decide +kernel
theorem dX12_lose_13 : decode cX12_lose 13 = .ok (.iload_n 1, 1) := by decide +kernel
theorem dX12_lose_14 : decode cX12_lose 14 = .ok (.iload_n 2, 1) := by decide +kernel
theorem dX12_lose_15 : decode cX12_lose 15 = .ok (.invokevirtual 486, 3) := by decide +kernel
theorem dX12_lose_18 : decode cX12_lose 18 = .ok (.ifCond .eq 27, 3) := by decide +kernel
theorem dX12_lose_21 : decode cX12_lose 21 = .ok (.iload_n 2, 1) := by decide +kernel
theorem dX12_lose_22 : decode cX12_lose 22 = .ok (.iload_n 1, 1) := by decide +kernel
theorem dX12_lose_23 : decode cX12_lose 23 = .ok (.ifCond .ne 16, 3) := by decide +kernel
theorem dX12_lose_26 : decode cX12_lose 26 = .ok (.sipush 3000, 3) := by decide +kernel
theorem dX12_lose_29 : decode cX12_lose 29 = .ok (.aload_n 0, 1) := by decide +kernel
theorem dX12_lose_30 : decode cX12_lose 30 = .ok (.getfield 275, 3) := by decide +kernel
theorem dX12_lose_33 : decode cX12_lose 33 = .ok (.imul, 1) := by decide +kernel
theorem dX12_lose_34 : decode cX12_lose 34 = .ok (.iconst 1, 1) := by decide +kernel
theorem dX12_lose_35 : decode cX12_lose 35 = .ok (.isub, 1) := by decide +kernel
theorem dX12_lose_36 : decode cX12_lose 36 = .ok (.goto 6, 3) := by decide +kernel
theorem dX12_lose_39 : decode cX12_lose 39 = .ok (.ldc_w 489, 3) := by decide +kernel
theorem dX12_lose_42 : decode cX12_lose 42 = .ok (.if_icmp .le 6, 3) := by decide +kernel
theorem dX12_lose_45 : decode cX12_lose 45 = .ok (.bipush (-2), 2) := by decide +kernel
theorem dX12_lose_47 : decode cX12_lose 47 = .ok (.ireturn, 1) := by decide +kernel
theorem dX12_lose_48 : decode cX12_lose 48 = .ok (.iconst 0, 1) := by decide +kernel
theorem dX12_lose_49 : decode cX12_lose 49 = .ok (.istore_n 3, 1) := by decide +kernel
theorem dX12_lose_50 : decode cX12_lose 50 = .ok (.iconst 0, 1) := by decide +kernel
theorem dX12_lose_51 : decode cX12_lose 51 = .ok (.istore 4, 2) := by decide +kernel
theorem dX12_lose_53 : decode cX12_lose 53 = .ok (.iload 4, 2) := by decide +kernel
theorem dX12_lose_55 : decode cX12_lose 55 = .ok (.aload_n 0, 1) := by decide +kernel
theorem dX12_lose_56 : decode cX12_lose 56 = .ok (.getfield 490, 3) := by decide +kernel
theorem dX12_lose_59 : decode cX12_lose 59 = .ok (.if_icmp .ge 59, 3) := by decide +kernel
theorem dX12_lose_62 : decode cX12_lose 62 = .ok (.aload_n 0, 1) := by decide +kernel
theorem dX12_lose_63 : decode cX12_lose 63 = .ok (.aload_n 0, 1) := by decide +kernel
theorem dX12_lose_64 : decode cX12_lose 64 = .ok (.getfield 179, 3) := by decide +kernel
theorem dX12_lose_67 : decode cX12_lose 67 = .ok (.iload 4, 2) := by decide +kernel
theorem dX12_lose_69 : decode cX12_lose 69 = .ok (.iaload, 1) := by decide +kernel
theorem dX12_lose_70 : decode cX12_lose 70 = .ok (.aload_n 0, 1) := by decide +kernel
theorem dX12_lose_71 : decode cX12_lose 71 = .ok (.getfield 182, 3) := by decide +kernel
theorem dX12_lose_74 : decode cX12_lose 74 = .ok (.iload 4, 2) := by decide +kernel
theorem dX12_lose_76 : decode cX12_lose 76 = .ok (.iaload, 1) := by decide +kernel
theorem dX12_lose_77 : decode cX12_lose 77 = .ok (.invokevirtual 486, 3) := by decide +kernel
theorem dX12_lose_80 : decode cX12_lose 80 = .ok (.ifCond .eq 32, 3) := by decide +kernel
theorem dX12_lose_83 : decode cX12_lose 83 = .ok (.aload_n 0, 1) := by decide +kernel
theorem dX12_lose_84 : decode cX12_lose 84 = .ok (.getfield 179, 3) := by decide +kernel
theorem dX12_lose_87 : decode cX12_lose 87 = .ok (.iload_n 3, 1) := by decide +kernel
theorem dX12_lose_88 : decode cX12_lose 88 = .ok (.aload_n 0, 1) := by decide +kernel
theorem dX12_lose_89 : decode cX12_lose 89 = .ok (.getfield 179, 3) := by decide +kernel
theorem dX12_lose_92 : decode cX12_lose 92 = .ok (.iload 4, 2) := by decide +kernel
theorem dX12_lose_94 : decode cX12_lose 94 = .ok (.iaload, 1) := by decide +kernel
theorem dX12_lose_95 : decode cX12_lose 95 = .ok (.iastore, 1) := by decide +kernel
theorem dX12_lose_96 : decode cX12_lose 96 = .ok (.aload_n 0, 1) := by decide +kernel
theorem dX12_lose_97 : decode cX12_lose 97 = .ok (.getfield 182, 3) := by decide +kernel
theorem dX12_lose_100 : decode cX12_lose 100 = .ok (.iload_n 3, 1) := by decide +kernel
theorem dX12_lose_101 : decode cX12_lose 101 = .ok (.iinc 3 1, 3) := by decide +kernel
theorem dX12_lose_104 : decode cX12_lose 104 = .ok (.aload_n 0, 1) := by decide +kernel
theorem dX12_lose_105 : decode cX12_lose 105 = .ok (.getfield 182, 3) := by decide +kernel
theorem dX12_lose_108 : decode cX12_lose 108 = .ok (.iload 4, 2) := by decide +kernel
theorem dX12_lose_110 : decode cX12_lose 110 = .ok (.iaload, 1) := by decide +kernel
theorem dX12_lose_111 : decode cX12_lose 111 = .ok (.iastore, 1) := by decide +kernel
theorem dX12_lose_112 : decode cX12_lose 112 = .ok (.iinc 4 1, 3) := by decide +kernel
theorem dX12_lose_115 : decode cX12_lose 115 = .ok (.goto (-62), 3) := by decide +kernel
theorem dX12_lose_118 : decode cX12_lose 118 = .ok (.aload_n 0, 1) := by decide +kernel
theorem dX12_lose_119 : decode cX12_lose 119 = .ok (.iload_n 3, 1) := by decide +kernel
theorem dX12_lose_120 : decode cX12_lose 120 = .ok (.putfield 490, 3) := by decide +kernel
theorem dX12_lose_123 : decode cX12_lose 123 = .ok (.aload_n 0, 1) := by decide +kernel
theorem dX12_lose_124 : decode cX12_lose 124 = .ok (.getfield 490, 3) := by decide +kernel
theorem dX12_lose_127 : decode cX12_lose 127 = .ok (.sipush 300, 3) := by decide +kernel
theorem dX12_lose_130 : decode cX12_lose 130 = .ok (.if_icmp .ne 6, 3) := by decide +kernel
theorem dX12_lose_133 : decode cX12_lose 133 = .ok (.bipush (-3), 2) := by decide +kernel
theorem dX12_lose_135 : decode cX12_lose 135 = .ok (.ireturn, 1) := by decide +kernel
theorem dX12_lose_136 : decode cX12_lose 136 = .ok (.aload_n 0, 1) := by decide +kernel
theorem dX12_lose_137 : decode cX12_lose 137 = .ok (.getfield 179, 3) := by decide +kernel
theorem dX12_lose_140 : decode cX12_lose 140 = .ok (.aload_n 0, 1) := by decide +kernel
theorem dX12_lose_141 : decode cX12_lose 141 = .ok (.getfield 490, 3) := by decide +kernel
theorem dX12_lose_144 : decode cX12_lose 144 = .ok (.iload_n 1, 1) := by decide +kernel
theorem dX12_lose_145 : decode cX12_lose 145 = .ok (.iastore, 1) := by decide +kernel
theorem dX12_lose_146 : decode cX12_lose 146 = .ok (.aload_n 0, 1) := by decide +kernel
theorem dX12_lose_147 : decode cX12_lose 147 = .ok (.getfield 182, 3) := by decide +kernel
theorem dX12_lose_150 : decode cX12_lose 150 = .ok (.aload_n 0, 1) := by decide +kernel
theorem dX12_lose_151 : decode cX12_lose 151 = .ok (.getfield 490, 3) := by decide +kernel
theorem dX12_lose_154 : decode cX12_lose 154 = .ok (.iload_n 2, 1) := by decide +kernel
theorem dX12_lose_155 : decode cX12_lose 155 = .ok (.iastore, 1) := by decide +kernel
theorem dX12_lose_156 : decode cX12_lose 156 = .ok (.aload_n 0, 1) := by decide +kernel
theorem dX12_lose_157 : decode cX12_lose 157 = .ok (.dup, 1) := by decide +kernel
theorem dX12_lose_158 : decode cX12_lose 158 = .ok (.getfield 490, 3) := by decide +kernel
theorem dX12_lose_161 : decode cX12_lose 161 = .ok (.iconst 1, 1) := by decide +kernel
theorem dX12_lose_162 : decode cX12_lose 162 = .ok (.iadd, 1) := by decide +kernel
theorem dX12_lose_163 : decode cX12_lose 163 = .ok (.dup_x1, 1) := by decide +kernel
theorem dX12_lose_164 : decode cX12_lose 164 = .ok (.putfield 490, 3) := by decide +kernel
theorem dX12_lose_167 : decode cX12_lose 167 = .ok (.ireturn, 1) := by decide +kernel
theorem dX12_alter_0 : decode cX12_alter 0 = .ok (.iload_n 1, 1) := by decide +kernel
theorem dX12_alter_1 : decode cX12_alter 1 = .ok (.i2l, 1) := by decide +kernel
theorem dX12_alter_2 : decode cX12_alter 2 = .ok (.aload_n 0, 1) := by decide +kernel
theorem dX12_alter_3 : decode cX12_alter 3 = .ok (.getfield 437, 3) := by decide +kernel
theorem dX12_alter_6 : decode cX12_alter 6 = .ok (.i2l, 1) := by decide +kernel
theorem dX12_alter_7 : decode cX12_alter 7 = .ok (.sipush 3000, 3) := by decide +kernel
theorem dX12_alter_10 : decode cX12_alter 10 = .ok (.aload_n 0, 1) := by decide +kernel
theorem dX12_alter_11 : decode cX12_alter 11 = .ok (.getfield 275, 3) := by decide +kernel
theorem dX12_alter_14 : decode cX12_alter 14 = .ok (.imul, 1) := by decide +kernel
theorem dX12_alter_15 : decode cX12_alter 15 = .ok (.iconst 1, 1) := by decide +kernel
theorem dX12_alter_16 : decode cX12_alter 16 = .ok (.isub, 1) := by decide +kernel
theorem dX12_alter_17 : decode cX12_alter 17 = .ok (.i2l, 1) := by decide +kernel
theorem dX12_alter_18 : decode cX12_alter 18 = .ok (.invokestatic 287, 3) := by decide +kernel
theorem dX12_alter_21 : decode cX12_alter 21 = .ok (.ifCond .eq 27, 3) := by decide +kernel
theorem dX12_alter_24 : decode cX12_alter 24 = .ok (.iload_n 2, 1) := by decide +kernel
theorem dX12_alter_25 : decode cX12_alter 25 = .ok (.i2l, 1) := by decide +kernel
theorem dX12_alter_26 : decode cX12_alter 26 = .ok (.lconst 0, 1) := by decide +kernel
theorem dX12_alter_27 : decode cX12_alter 27 = .ok (.ldc2_w 493, 3) := by decide +kernel
theorem dX12_alter_30 : decode cX12_alter 30 = .ok (.invokestatic 287, 3) := by decide +kernel
theorem dX12_alter_33 : decode cX12_alter 33 = .ok (.ifCond .eq 15, 3) := by decide +kernel
theorem dX12_alter_36 : decode cX12_alter 36 = .ok (.iload_n 3, 1) := by decide +kernel
theorem dX12_alter_37 : decode cX12_alter 37 = .ok (.i2l, 1) := by decide +kernel
theorem dX12_alter_38 : decode cX12_alter 38 = .ok (.lconst 1, 1) := by decide +kernel
theorem dX12_alter_39 : decode cX12_alter 39 = .ok (.ldc2_w 446, 3) := by decide +kernel
theorem dX12_alter_42 : decode cX12_alter 42 = .ok (.invokestatic 287, 3) := by decide +kernel
theorem dX12_alter_45 : decode cX12_alter 45 = .ok (.ifCond .ne 6, 3) := by decide +kernel
theorem dX12_alter_48 : decode cX12_alter 48 = .ok (.bipush (-2), 2) := by decide +kernel
theorem dX12_alter_50 : decode cX12_alter 50 = .ok (.ireturn, 1) := by decide +kernel
theorem dX12_alter_51 : decode cX12_alter 51 = .ok (.iconst 0, 1) := by decide +kernel
theorem dX12_alter_52 : decode cX12_alter 52 = .ok (.istore 4, 2) := by decide +kernel
theorem dX12_alter_54 : decode cX12_alter 54 = .ok (.iconst 0, 1) := by decide +kernel
theorem dX12_alter_55 : decode cX12_alter 55 = .ok (.istore 5, 2) := by decide +kernel
theorem dX12_alter_57 : decode cX12_alter 57 = .ok (.iload 5, 2) := by decide +kernel
theorem dX12_alter_59 : decode cX12_alter 59 = .ok (.aload_n 0, 1) := by decide +kernel
theorem dX12_alter_60 : decode cX12_alter 60 = .ok (.getfield 495, 3) := by decide +kernel
theorem dX12_alter_63 : decode cX12_alter 63 = .ok (.if_icmp .ge 68, 3) := by decide +kernel
theorem dX12_alter_66 : decode cX12_alter 66 = .ok (.aload_n 0, 1) := by decide +kernel
theorem dX12_alter_67 : decode cX12_alter 67 = .ok (.getfield 185, 3) := by decide +kernel
theorem dX12_alter_70 : decode cX12_alter 70 = .ok (.iload 5, 2) := by decide +kernel
theorem dX12_alter_72 : decode cX12_alter 72 = .ok (.iaload, 1) := by decide +kernel
theorem dX12_alter_73 : decode cX12_alter 73 = .ok (.aload_n 0, 1) := by decide +kernel
theorem dX12_alter_74 : decode cX12_alter 74 = .ok (.getfield 437, 3) := by decide +kernel
theorem dX12_alter_77 : decode cX12_alter 77 = .ok (.if_icmp .lt 48, 3) := by decide +kernel
theorem dX12_alter_80 : decode cX12_alter 80 = .ok (.aload_n 0, 1) := by decide +kernel
theorem dX12_alter_81 : decode cX12_alter 81 = .ok (.getfield 185, 3) := by decide +kernel
theorem dX12_alter_84 : decode cX12_alter 84 = .ok (.iload 4, 2) := by decide +kernel
theorem dX12_alter_86 : decode cX12_alter 86 = .ok (.aload_n 0, 1) := by decide +kernel
theorem dX12_alter_87 : decode cX12_alter 87 = .ok (.getfield 185, 3) := by decide +kernel
theorem dX12_alter_90 : decode cX12_alter 90 = .ok (.iload 5, 2) := by decide +kernel
theorem dX12_alter_92 : decode cX12_alter 92 = .ok (.iaload, 1) := by decide +kernel
theorem dX12_alter_93 : decode cX12_alter 93 = .ok (.iastore, 1) := by decide +kernel
theorem dX12_alter_94 : decode cX12_alter 94 = .ok (.aload_n 0, 1) := by decide +kernel
theorem dX12_alter_95 : decode cX12_alter 95 = .ok (.getfield 188, 3) := by decide +kernel
theorem dX12_alter_98 : decode cX12_alter 98 = .ok (.iload 4, 2) := by decide +kernel
theorem dX12_alter_100 : decode cX12_alter 100 = .ok (.aload_n 0, 1) := by decide +kernel
theorem dX12_alter_101 : decode cX12_alter 101 = .ok (.getfield 188, 3) := by decide +kernel
theorem dX12_alter_104 : decode cX12_alter 104 = .ok (.iload 5, 2) := by decide +kernel
theorem dX12_alter_106 : decode cX12_alter 106 = .ok (.iaload, 1) := by decide +kernel
theorem dX12_alter_107 : decode cX12_alter 107 = .ok (.iastore, 1) := by decide +kernel
theorem dX12_alter_108 : decode cX12_alter 108 = .ok (.aload_n 0, 1) := by decide +kernel
theorem dX12_alter_109 : decode cX12_alter 109 = .ok (.getfield 191, 3) := by decide +kernel
theorem dX12_alter_112 : decode cX12_alter 112 = .ok (.iload 4, 2) := by decide +kernel
theorem dX12_alter_114 : decode cX12_alter 114 = .ok (.iinc 4 1, 3) := by decide +kernel
theorem dX12_alter_117 : decode cX12_alter 117 = .ok (.aload_n 0, 1) := by decide +kernel
theorem dX12_alter_118 : decode cX12_alter 118 = .ok (.getfield 191, 3) := by decide +kernel
theorem dX12_alter_121 : decode cX12_alter 121 = .ok (.iload 5, 2) := by decide +kernel
theorem dX12_alter_123 : decode cX12_alter 123 = .ok (.iaload, 1) := by decide +kernel
theorem dX12_alter_124 : decode cX12_alter 124 = .ok (.iastore, 1) := by decide +kernel
theorem dX12_alter_125 : decode cX12_alter 125 = .ok (.iinc 5 1, 3) := by decide +kernel
theorem dX12_alter_128 : decode cX12_alter 128 = .ok (.goto (-71), 3) := by decide +kernel
theorem dX12_alter_131 : decode cX12_alter 131 = .ok (.aload_n 0, 1) := by decide +kernel
theorem dX12_alter_132 : decode cX12_alter 132 = .ok (.iload 4, 2) := by decide +kernel
theorem dX12_alter_134 : decode cX12_alter 134 = .ok (.putfield 495, 3) := by decide +kernel
theorem dX12_alter_137 : decode cX12_alter 137 = .ok (.aload_n 0, 1) := by decide +kernel
theorem dX12_alter_138 : decode cX12_alter 138 = .ok (.getfield 495, 3) := by decide +kernel
theorem dX12_alter_141 : decode cX12_alter 141 = .ok (.sipush 300, 3) := by decide +kernel
theorem dX12_alter_144 : decode cX12_alter 144 = .ok (.if_icmp .ne 6, 3) := by decide +kernel
theorem dX12_alter_147 : decode cX12_alter 147 = .ok (.bipush (-3), 2) := by decide +kernel
theorem dX12_alter_149 : decode cX12_alter 149 = .ok (.ireturn, 1) := by decide +kernel
theorem dX12_alter_150 : decode cX12_alter 150 = .ok (.aload_n 0, 1) := by decide +kernel
theorem dX12_alter_151 : decode cX12_alter 151 = .ok (.getfield 185, 3) := by decide +kernel
theorem dX12_alter_154 : decode cX12_alter 154 = .ok (.aload_n 0, 1) := by decide +kernel
theorem dX12_alter_155 : decode cX12_alter 155 = .ok (.getfield 495, 3) := by decide +kernel
theorem dX12_alter_158 : decode cX12_alter 158 = .ok (.iload_n 1, 1) := by decide +kernel
theorem dX12_alter_159 : decode cX12_alter 159 = .ok (.iastore, 1) := by decide +kernel
theorem dX12_alter_160 : decode cX12_alter 160 = .ok (.aload_n 0, 1) := by decide +kernel
theorem dX12_alter_161 : decode cX12_alter 161 = .ok (.getfield 188, 3) := by decide +kernel
theorem dX12_alter_164 : decode cX12_alter 164 = .ok (.aload_n 0, 1) := by decide +kernel
theorem dX12_alter_165 : decode cX12_alter 165 = .ok (.getfield 495, 3) := by decide +kernel
theorem dX12_alter_168 : decode cX12_alter 168 = .ok (.iload_n 2, 1) := by decide +kernel
theorem dX12_alter_169 : decode cX12_alter 169 = .ok (.iastore, 1) := by decide +kernel
theorem dX12_alter_170 : decode cX12_alter 170 = .ok (.aload_n 0, 1) := by decide +kernel
theorem dX12_alter_171 : decode cX12_alter 171 = .ok (.getfield 191, 3) := by decide +kernel
theorem dX12_alter_174 : decode cX12_alter 174 = .ok (.aload_n 0, 1) := by decide +kernel
theorem dX12_alter_175 : decode cX12_alter 175 = .ok (.getfield 495, 3) := by decide +kernel
theorem dX12_alter_178 : decode cX12_alter 178 = .ok (.iload_n 3, 1) := by decide +kernel
theorem dX12_alter_179 : decode cX12_alter 179 = .ok (.iastore, 1) := by decide +kernel
theorem dX12_alter_180 : decode cX12_alter 180 = .ok (.aload_n 0, 1) := by decide +kernel
theorem dX12_alter_181 : decode cX12_alter 181 = .ok (.dup, 1) := by decide +kernel
theorem dX12_alter_182 : decode cX12_alter 182 = .ok (.getfield 495, 3) := by decide +kernel
theorem dX12_alter_185 : decode cX12_alter 185 = .ok (.iconst 1, 1) := by decide +kernel
theorem dX12_alter_186 : decode cX12_alter 186 = .ok (.iadd, 1) := by decide +kernel
theorem dX12_alter_187 : decode cX12_alter 187 = .ok (.dup_x1, 1) := by decide +kernel
theorem dX12_alter_188 : decode cX12_alter 188 = .ok (.putfield 495, 3) := by decide +kernel
theorem dX12_alter_191 : decode cX12_alter 191 = .ok (.ireturn, 1) := by decide +kernel
theorem dX12_isLost_0 : decode cX12_isLost 0 = .ok (.iconst 0, 1) := by decide +kernel
theorem dX12_isLost_1 : decode cX12_isLost 1 = .ok (.istore_n 3, 1) := by decide +kernel
theorem dX12_isLost_2 : decode cX12_isLost 2 = .ok (.iconst 0, 1) := by decide +kernel
theorem dX12_isLost_3 : decode cX12_isLost 3 = .ok (.istore 4, 2) := by decide +kernel
theorem dX12_isLost_5 : decode cX12_isLost 5 = .ok (.iload 4, 2) := by decide +kernel
theorem dX12_isLost_7 : decode cX12_isLost 7 = .ok (.aload_n 0, 1) := by decide +kernel
theorem dX12_isLost_8 : decode cX12_isLost 8 = .ok (.getfield 490, 3) := by decide +kernel
theorem dX12_isLost_11 : decode cX12_isLost 11 = .ok (.if_icmp .ge 39, 3) := by decide +kernel
theorem dX12_isLost_14 : decode cX12_isLost 14 = .ok (.iload_n 3, 1) := by decide +kernel
theorem dX12_isLost_15 : decode cX12_isLost 15 = .ok (.aload_n 0, 1) := by decide +kernel
theorem dX12_isLost_16 : decode cX12_isLost 16 = .ok (.getfield 179, 3) := by decide +kernel
theorem dX12_isLost_19 : decode cX12_isLost 19 = .ok (.iload 4, 2) := by decide +kernel
theorem dX12_isLost_21 : decode cX12_isLost 21 = .ok (.iaload, 1) := by decide +kernel
theorem dX12_isLost_22 : decode cX12_isLost 22 = .ok (.iload_n 1, 1) := by decide +kernel
theorem dX12_isLost_23 : decode cX12_isLost 23 = .ok (.if_icmp .ne 18, 3) := by decide +kernel
theorem dX12_isLost_26 : decode cX12_isLost 26 = .ok (.aload_n 0, 1) := by decide +kernel
theorem dX12_isLost_27 : decode cX12_isLost 27 = .ok (.getfield 182, 3) := by decide +kernel
theorem dX12_isLost_30 : decode cX12_isLost 30 = .ok (.iload 4, 2) := by decide +kernel
theorem dX12_isLost_32 : decode cX12_isLost 32 = .ok (.iaload, 1) := by decide +kernel
theorem dX12_isLost_33 : decode cX12_isLost 33 = .ok (.iload_n 2, 1) := by decide +kernel
theorem dX12_isLost_34 : decode cX12_isLost 34 = .ok (.if_icmp .ne 7, 3) := by decide +kernel
theorem dX12_isLost_37 : decode cX12_isLost 37 = .ok (.iconst 1, 1) := by decide +kernel
theorem dX12_isLost_38 : decode cX12_isLost 38 = .ok (.goto 4, 3) := by decide +kernel
theorem dX12_isLost_41 : decode cX12_isLost 41 = .ok (.iconst 0, 1) := by decide +kernel
theorem dX12_isLost_42 : decode cX12_isLost 42 = .ok (.ior, 1) := by decide +kernel
theorem dX12_isLost_43 : decode cX12_isLost 43 = .ok (.istore_n 3, 1) := by decide +kernel
theorem dX12_isLost_44 : decode cX12_isLost 44 = .ok (.iinc 4 1, 3) := by decide +kernel
theorem dX12_isLost_47 : decode cX12_isLost 47 = .ok (.goto (-42), 3) := by decide +kernel
theorem dX12_isLost_50 : decode cX12_isLost 50 = .ok (.iload_n 3, 1) := by decide +kernel
theorem dX12_isLost_51 : decode cX12_isLost 51 = .ok (.ireturn, 1) := by decide +kernel
theorem dX12_send_0 : decode cX12_send 0 = .ok (.aload_n 0, 1) := by decide +kernel
theorem dX12_send_1 : decode cX12_send 1 = .ok (.getfield 498, 3) := by decide +kernel
theorem dX12_send_4 : decode cX12_send 4 = .ok (.ifCond .ne 19, 3) := by decide +kernel
theorem dX12_send_7 : decode cX12_send 7 = .ok (.aload_n 0, 1) := by decide +kernel
theorem dX12_send_8 : decode cX12_send 8 = .ok (.aload_n 0, 1) := by decide +kernel
theorem dX12_send_9 : decode cX12_send 9 = .ok (.getfield 167, 3) := by decide +kernel
theorem dX12_send_12 : decode cX12_send 12 = .ok (.putfield 501, 3) := by decide +kernel
theorem dX12_send_15 : decode cX12_send 15 = .ok (.aload_n 0, 1) := by decide +kernel
theorem dX12_send_16 : decode cX12_send 16 = .ok (.aload_n 0, 1) := by decide +kernel
theorem dX12_send_17 : decode cX12_send 17 = .ok (.getfield 170, 3) := by decide +kernel
theorem dX12_send_20 : decode cX12_send 20 = .ok (.putfield 504, 3) := by decide +kernel
theorem dX12_send_23 : decode cX12_send 23 = .ok (.aload_n 0, 1) := by decide +kernel
theorem dX12_send_24 : decode cX12_send 24 = .ok (.getfield 437, 3) := by decide +kernel
theorem dX12_send_27 : decode cX12_send 27 = .ok (.istore_n 1, 1) := by decide +kernel
theorem dX12_send_28 : decode cX12_send 28 = .ok (.iconst 0, 1) := by decide +kernel
theorem dX12_send_29 : decode cX12_send 29 = .ok (.istore_n 2, 1) := by decide +kernel
theorem dX12_send_30 : decode cX12_send 30 = .ok (.iload_n 2, 1) := by decide +kernel
theorem dX12_send_31 : decode cX12_send 31 = .ok (.sipush 188, 3) := by decide +kernel
theorem dX12_send_34 : decode cX12_send 34 = .ok (.if_icmp .ge 54, 3) := by decide +kernel
theorem dX12_send_37 : decode cX12_send 37 = .ok (.aload_n 0, 1) := by decide +kernel
theorem dX12_send_38 : decode cX12_send 38 = .ok (.getfield 158, 3) := by decide +kernel
theorem dX12_send_41 : decode cX12_send 41 = .ok (.iload_n 1, 1) := by decide +kernel
theorem dX12_send_42 : decode cX12_send 42 = .ok (.sipush 256, 3) := by decide +kernel
theorem dX12_send_45 : decode cX12_send 45 = .ok (.irem, 1) := by decide +kernel
theorem dX12_send_46 : decode cX12_send 46 = .ok (.sipush 188, 3) := by decide +kernel
theorem dX12_send_49 : decode cX12_send 49 = .ok (.imul, 1) := by decide +kernel
theorem dX12_send_50 : decode cX12_send 50 = .ok (.iload_n 2, 1) := by decide +kernel
theorem dX12_send_51 : decode cX12_send 51 = .ok (.iadd, 1) := by decide +kernel
theorem dX12_send_52 : decode cX12_send 52 = .ok (.aload_n 0, 1) := by decide +kernel
theorem dX12_send_53 : decode cX12_send 53 = .ok (.getfield 161, 3) := by decide +kernel
theorem dX12_send_56 : decode cX12_send 56 = .ok (.iload_n 2, 1) := by decide +kernel
theorem dX12_send_57 : decode cX12_send 57 = .ok (.iaload, 1) := by decide +kernel
theorem dX12_send_58 : decode cX12_send 58 = .ok (.i2b, 1) := by decide +kernel
theorem dX12_send_59 : decode cX12_send 59 = .ok (.bastore, 1) := by decide +kernel
theorem dX12_send_60 : decode cX12_send 60 = .ok (.aload_n 0, 1) := by decide +kernel
theorem dX12_send_61 : decode cX12_send 61 = .ok (.getfield 173, 3) := by decide +kernel
theorem dX12_send_64 : decode cX12_send 64 = .ok (.aload_n 0, 1) := by decide +kernel
theorem dX12_send_65 : decode cX12_send 65 = .ok (.getfield 498, 3) := by decide +kernel
theorem dX12_send_68 : decode cX12_send 68 = .ok (.sipush 188, 3) := by decide +kernel
theorem dX12_send_71 : decode cX12_send 71 = .ok (.imul, 1) := by decide +kernel
theorem dX12_send_72 : decode cX12_send 72 = .ok (.iload_n 2, 1) := by decide +kernel
theorem dX12_send_73 : decode cX12_send 73 = .ok (.iadd, 1) := by decide +kernel
theorem dX12_send_74 : decode cX12_send 74 = .ok (.aload_n 0, 1) := by decide +kernel
theorem dX12_send_75 : decode cX12_send 75 = .ok (.getfield 161, 3) := by decide +kernel
theorem dX12_send_78 : decode cX12_send 78 = .ok (.iload_n 2, 1) := by decide +kernel
theorem dX12_send_79 : decode cX12_send 79 = .ok (.iaload, 1) := by decide +kernel
theorem dX12_send_80 : decode cX12_send 80 = .ok (.i2b, 1) := by decide +kernel
theorem dX12_send_81 : decode cX12_send 81 = .ok (.bastore, 1) := by decide +kernel
theorem dX12_send_82 : decode cX12_send 82 = .ok (.iinc 2 1, 3) := by decide +kernel
theorem dX12_send_85 : decode cX12_send 85 = .ok (.goto (-55), 3) := by decide +kernel
theorem dX12_send_88 : decode cX12_send 88 = .ok (.iconst 0, 1) := by decide +kernel
theorem dX12_send_89 : decode cX12_send 89 = .ok (.istore_n 2, 1) := by decide +kernel
theorem dX12_send_90 : decode cX12_send 90 = .ok (.iload_n 2, 1) := by decide +kernel
theorem dX12_send_91 : decode cX12_send 91 = .ok (.aload_n 0, 1) := by decide +kernel
theorem dX12_send_92 : decode cX12_send 92 = .ok (.getfield 495, 3) := by decide +kernel
theorem dX12_send_95 : decode cX12_send 95 = .ok (.if_icmp .ge 50, 3) := by decide +kernel
theorem dX12_send_98 : decode cX12_send 98 = .ok (.aload_n 0, 1) := by decide +kernel
theorem dX12_send_99 : decode cX12_send 99 = .ok (.getfield 185, 3) := by decide +kernel
theorem dX12_send_102 : decode cX12_send 102 = .ok (.iload_n 2, 1) := by decide +kernel
theorem dX12_send_103 : decode cX12_send 103 = .ok (.iaload, 1) := by decide +kernel
theorem dX12_send_104 : decode cX12_send 104 = .ok (.iload_n 1, 1) := by decide +kernel
theorem dX12_send_105 : decode cX12_send 105 = .ok (.if_icmp .ne 34, 3) := by decide +kernel
theorem dX12_send_108 : decode cX12_send 108 = .ok (.aload_n 0, 1) := by decide +kernel
theorem dX12_send_109 : decode cX12_send 109 = .ok (.getfield 173, 3) := by decide +kernel
theorem dX12_send_112 : decode cX12_send 112 = .ok (.aload_n 0, 1) := by decide +kernel
theorem dX12_send_113 : decode cX12_send 113 = .ok (.getfield 498, 3) := by decide +kernel
theorem dX12_send_116 : decode cX12_send 116 = .ok (.sipush 188, 3) := by decide +kernel
theorem dX12_send_119 : decode cX12_send 119 = .ok (.imul, 1) := by decide +kernel
theorem dX12_send_120 : decode cX12_send 120 = .ok (.aload_n 0, 1) := by decide +kernel
theorem dX12_send_121 : decode cX12_send 121 = .ok (.getfield 188, 3) := by decide +kernel
theorem dX12_send_124 : decode cX12_send 124 = .ok (.iload_n 2, 1) := by decide +kernel
theorem dX12_send_125 : decode cX12_send 125 = .ok (.iaload, 1) := by decide +kernel
theorem dX12_send_126 : decode cX12_send 126 = .ok (.iadd, 1) := by decide +kernel
theorem dX12_send_127 : decode cX12_send 127 = .ok (.dup2, 1) := by decide +kernel
theorem dX12_send_128 : decode cX12_send 128 = .ok (.baload, 1) := by decide +kernel
theorem dX12_send_129 : decode cX12_send 129 = .ok (.aload_n 0, 1) := by decide +kernel
theorem dX12_send_130 : decode cX12_send 130 = .ok (.getfield 191, 3) := by decide +kernel
theorem dX12_send_133 : decode cX12_send 133 = .ok (.iload_n 2, 1) := by decide +kernel
theorem dX12_send_134 : decode cX12_send 134 = .ok (.iaload, 1) := by decide +kernel
theorem dX12_send_135 : decode cX12_send 135 = .ok (.i2b, 1) := by decide +kernel
theorem dX12_send_136 : decode cX12_send 136 = .ok (.ixor, 1) := by decide +kernel
theorem dX12_send_137 : decode cX12_send 137 = .ok (.i2b, 1) := by decide +kernel
theorem dX12_send_138 : decode cX12_send 138 = .ok (.bastore, 1) := by decide +kernel
theorem dX12_send_139 : decode cX12_send 139 = .ok (.iinc 2 1, 3) := by decide +kernel
theorem dX12_send_142 : decode cX12_send 142 = .ok (.goto (-52), 3) := by decide +kernel
theorem dX12_send_145 : decode cX12_send 145 = .ok (.aload_n 0, 1) := by decide +kernel
theorem dX12_send_146 : decode cX12_send 146 = .ok (.getfield 176, 3) := by decide +kernel
theorem dX12_send_149 : decode cX12_send 149 = .ok (.aload_n 0, 1) := by decide +kernel
theorem dX12_send_150 : decode cX12_send 150 = .ok (.getfield 498, 3) := by decide +kernel
theorem dX12_send_153 : decode cX12_send 153 = .ok (.aload_n 0, 1) := by decide +kernel
theorem dX12_send_154 : decode cX12_send 154 = .ok (.iconst 0, 1) := by decide +kernel
theorem dX12_send_155 : decode cX12_send 155 = .ok (.iload_n 1, 1) := by decide +kernel
theorem dX12_send_156 : decode cX12_send 156 = .ok (.invokevirtual 507, 3) := by decide +kernel
theorem dX12_send_159 : decode cX12_send 159 = .ok (.bastore, 1) := by decide +kernel
theorem dX12_send_160 : decode cX12_send 160 = .ok (.aload_n 0, 1) := by decide +kernel
theorem dX12_send_161 : decode cX12_send 161 = .ok (.dup, 1) := by decide +kernel
theorem dX12_send_162 : decode cX12_send 162 = .ok (.getfield 510, 3) := by decide +kernel
theorem dX12_send_165 : decode cX12_send 165 = .ok (.aload_n 0, 1) := by decide +kernel
theorem dX12_send_166 : decode cX12_send 166 = .ok (.getfield 176, 3) := by decide +kernel
theorem dX12_send_169 : decode cX12_send 169 = .ok (.aload_n 0, 1) := by decide +kernel
theorem dX12_send_170 : decode cX12_send 170 = .ok (.getfield 498, 3) := by decide +kernel
theorem dX12_send_173 : decode cX12_send 173 = .ok (.baload, 1) := by decide +kernel
theorem dX12_send_174 : decode cX12_send 174 = .ok (.ifCond .eq 7, 3) := by decide +kernel
theorem dX12_send_177 : decode cX12_send 177 = .ok (.iconst 1, 1) := by decide +kernel
theorem dX12_send_178 : decode cX12_send 178 = .ok (.goto 4, 3) := by decide +kernel
theorem dX12_send_181 : decode cX12_send 181 = .ok (.iconst 0, 1) := by decide +kernel
theorem dX12_send_182 : decode cX12_send 182 = .ok (.iadd, 1) := by decide +kernel
theorem dX12_send_183 : decode cX12_send 183 = .ok (.putfield 510, 3) := by decide +kernel
theorem dX12_send_186 : decode cX12_send 186 = .ok (.aload_n 0, 1) := by decide +kernel
theorem dX12_send_187 : decode cX12_send 187 = .ok (.dup, 1) := by decide +kernel
theorem dX12_send_188 : decode cX12_send 188 = .ok (.getfield 437, 3) := by decide +kernel
theorem dX12_send_191 : decode cX12_send 191 = .ok (.iconst 1, 1) := by decide +kernel
theorem dX12_send_192 : decode cX12_send 192 = .ok (.iadd, 1) := by decide +kernel
theorem dX12_send_193 : decode cX12_send 193 = .ok (.putfield 437, 3) := by decide +kernel
theorem dX12_send_196 : decode cX12_send 196 = .ok (.aload_n 0, 1) := by decide +kernel
theorem dX12_send_197 : decode cX12_send 197 = .ok (.dup, 1) := by decide +kernel
theorem dX12_send_198 : decode cX12_send 198 = .ok (.getfield 498, 3) := by decide +kernel
theorem dX12_send_201 : decode cX12_send 201 = .ok (.iconst 1, 1) := by decide +kernel
theorem dX12_send_202 : decode cX12_send 202 = .ok (.iadd, 1) := by decide +kernel
theorem dX12_send_203 : decode cX12_send 203 = .ok (.putfield 498, 3) := by decide +kernel
theorem dX12_send_206 : decode cX12_send 206 = .ok (.aload_n 0, 1) := by decide +kernel
theorem dX12_send_207 : decode cX12_send 207 = .ok (.getfield 498, 3) := by decide +kernel
theorem dX12_send_210 : decode cX12_send 210 = .ok (.aload_n 0, 1) := by decide +kernel
theorem dX12_send_211 : decode cX12_send 211 = .ok (.getfield 501, 3) := by decide +kernel
theorem dX12_send_214 : decode cX12_send 214 = .ok (.aload_n 0, 1) := by decide +kernel
theorem dX12_send_215 : decode cX12_send 215 = .ok (.getfield 504, 3) := by decide +kernel
theorem dX12_send_218 : decode cX12_send 218 = .ok (.imul, 1) := by decide +kernel
theorem dX12_send_219 : decode cX12_send 219 = .ok (.if_icmp .ne 7, 3) := by decide +kernel
theorem dX12_send_222 : decode cX12_send 222 = .ok (.aload_n 0, 1) := by decide +kernel
theorem dX12_send_223 : decode cX12_send 223 = .ok (.invokevirtual 513, 3) := by decide +kernel
theorem dX12_send_226 : decode cX12_send 226 = .ok (.return_, 1) := by decide +kernel
theorem dX12_isOf_0 : decode cX12_isOf 0 = .ok (.iload_n 1, 1) := by decide +kernel
theorem dX12_isOf_1 : decode cX12_isOf 1 = .ok (.aload_n 0, 1) := by decide +kernel
theorem dX12_isOf_2 : decode cX12_isOf 2 = .ok (.getfield 504, 3) := by decide +kernel
theorem dX12_isOf_5 : decode cX12_isOf 5 = .ok (.if_icmp .ge 21, 3) := by decide +kernel
theorem dX12_isOf_8 : decode cX12_isOf 8 = .ok (.iload_n 2, 1) := by decide +kernel
theorem dX12_isOf_9 : decode cX12_isOf 9 = .ok (.aload_n 0, 1) := by decide +kernel
theorem dX12_isOf_10 : decode cX12_isOf 10 = .ok (.getfield 501, 3) := by decide +kernel
theorem dX12_isOf_13 : decode cX12_isOf 13 = .ok (.idiv, 1) := by decide +kernel
theorem dX12_isOf_14 : decode cX12_isOf 14 = .ok (.iload_n 1, 1) := by decide +kernel
theorem dX12_isOf_15 : decode cX12_isOf 15 = .ok (.if_icmp .ne 7, 3) := by decide +kernel
theorem dX12_isOf_18 : decode cX12_isOf 18 = .ok (.iconst 1, 1) := by decide +kernel
theorem dX12_isOf_19 : decode cX12_isOf 19 = .ok (.goto 27, 3) := by decide +kernel
theorem dX12_isOf_22 : decode cX12_isOf 22 = .ok (.iconst 0, 1) := by decide +kernel
theorem dX12_isOf_23 : decode cX12_isOf 23 = .ok (.goto 23, 3) := by decide +kernel
theorem dX12_isOf_26 : decode cX12_isOf 26 = .ok (.iload_n 2, 1) := by decide +kernel
theorem dX12_isOf_27 : decode cX12_isOf 27 = .ok (.aload_n 0, 1) := by decide +kernel
theorem dX12_isOf_28 : decode cX12_isOf 28 = .ok (.getfield 501, 3) := by decide +kernel
theorem dX12_isOf_31 : decode cX12_isOf 31 = .ok (.irem, 1) := by decide +kernel
theorem dX12_isOf_32 : decode cX12_isOf 32 = .ok (.iload_n 1, 1) := by decide +kernel
theorem dX12_isOf_33 : decode cX12_isOf 33 = .ok (.aload_n 0, 1) := by decide +kernel
theorem dX12_isOf_34 : decode cX12_isOf 34 = .ok (.getfield 504, 3) := by decide +kernel
theorem dX12_isOf_37 : decode cX12_isOf 37 = .ok (.isub, 1) := by decide +kernel
theorem dX12_isOf_38 : decode cX12_isOf 38 = .ok (.if_icmp .ne 7, 3) := by decide +kernel
theorem dX12_isOf_41 : decode cX12_isOf 41 = .ok (.iconst 1, 1) := by decide +kernel
theorem dX12_isOf_42 : decode cX12_isOf 42 = .ok (.goto 4, 3) := by decide +kernel
theorem dX12_isOf_45 : decode cX12_isOf 45 = .ok (.iconst 0, 1) := by decide +kernel
theorem dX12_isOf_46 : decode cX12_isOf 46 = .ok (.ireturn, 1) := by decide +kernel
theorem dX12_lacking_0 : decode cX12_lacking 0 = .ok (.iconst (-1), 1) := by decide +kernel
theorem dX12_lacking_1 : decode cX12_lacking 1 = .ok (.istore_n 2, 1) := by decide +kernel
theorem dX12_lacking_2 : decode cX12_lacking 2 = .ok (.iconst 0, 1) := by decide +kernel
theorem dX12_lacking_3 : decode cX12_lacking 3 = .ok (.istore_n 3, 1) := by decide +kernel
theorem dX12_lacking_4 : decode cX12_lacking 4 = .ok (.iconst 0, 1) := by decide +kernel
theorem dX12_lacking_5 : decode cX12_lacking 5 = .ok (.istore 4, 2) := by decide +kernel
theorem dX12_lacking_7 : decode cX12_lacking 7 = .ok (.iload 4, 2) := by decide +kernel
theorem dX12_lacking_9 : decode cX12_lacking 9 = .ok (.aload_n 0, 1) := by decide +kernel
theorem dX12_lacking_10 : decode cX12_lacking 10 = .ok (.getfield 498, 3) := by decide +kernel
theorem dX12_lacking_13 : decode cX12_lacking 13 = .ok (.if_icmp .ge 35, 3) := by decide +kernel
theorem dX12_lacking_16 : decode cX12_lacking 16 = .ok (.aload_n 0, 1) := by decide +kernel
theorem dX12_lacking_17 : decode cX12_lacking 17 = .ok (.iload_n 1, 1) := by decide +kernel
theorem dX12_lacking_18 : decode cX12_lacking 18 = .ok (.iload 4, 2) := by decide +kernel
theorem dX12_lacking_20 : decode cX12_lacking 20 = .ok (.invokevirtual 516, 3) := by decide +kernel
theorem dX12_lacking_23 : decode cX12_lacking 23 = .ok (.ifCond .eq 19, 3) := by decide +kernel
theorem dX12_lacking_26 : decode cX12_lacking 26 = .ok (.aload_n 0, 1) := by decide +kernel
theorem dX12_lacking_27 : decode cX12_lacking 27 = .ok (.getfield 176, 3) := by decide +kernel
theorem dX12_lacking_30 : decode cX12_lacking 30 = .ok (.iload 4, 2) := by decide +kernel
theorem dX12_lacking_32 : decode cX12_lacking 32 = .ok (.baload, 1) := by decide +kernel
theorem dX12_lacking_33 : decode cX12_lacking 33 = .ok (.ifCond .eq 9, 3) := by decide +kernel
theorem dX12_lacking_36 : decode cX12_lacking 36 = .ok (.iload 4, 2) := by decide +kernel
theorem dX12_lacking_38 : decode cX12_lacking 38 = .ok (.istore_n 2, 1) := by decide +kernel
theorem dX12_lacking_39 : decode cX12_lacking 39 = .ok (.iinc 3 1, 3) := by decide +kernel
theorem dX12_lacking_42 : decode cX12_lacking 42 = .ok (.iinc 4 1, 3) := by decide +kernel
theorem dX12_lacking_45 : decode cX12_lacking 45 = .ok (.goto (-38), 3) := by decide +kernel
theorem dX12_lacking_48 : decode cX12_lacking 48 = .ok (.iload_n 3, 1) := by decide +kernel
theorem dX12_lacking_49 : decode cX12_lacking 49 = .ok (.iconst 1, 1) := by decide +kernel
theorem dX12_lacking_50 : decode cX12_lacking 50 = .ok (.if_icmp .ne 7, 3) := by decide +kernel
theorem dX12_lacking_53 : decode cX12_lacking 53 = .ok (.iload_n 2, 1) := by decide +kernel
theorem dX12_lacking_54 : decode cX12_lacking 54 = .ok (.goto 4, 3) := by decide +kernel
theorem dX12_lacking_57 : decode cX12_lacking 57 = .ok (.iconst (-1), 1) := by decide +kernel
theorem dX12_lacking_58 : decode cX12_lacking 58 = .ok (.ireturn, 1) := by decide +kernel
theorem dX12_mends_0 : decode cX12_mends 0 = .ok (.aload_n 0, 1) := by decide +kernel
theorem dX12_mends_1 : decode cX12_mends 1 = .ok (.getfield 437, 3) := by decide +kernel
theorem dX12_mends_4 : decode cX12_mends 4 = .ok (.aload_n 0, 1) := by decide +kernel
theorem dX12_mends_5 : decode cX12_mends 5 = .ok (.getfield 498, 3) := by decide +kernel
theorem dX12_mends_8 : decode cX12_mends 8 = .ok (.isub, 1) := by decide +kernel
theorem dX12_mends_9 : decode cX12_mends 9 = .ok (.istore_n 3, 1) := by decide +kernel
theorem dX12_mends_10 : decode cX12_mends 10 = .ok (.iconst 0, 1) := by decide +kernel
theorem dX12_mends_11 : decode cX12_mends 11 = .ok (.istore 4, 2) := by decide +kernel
theorem dX12_mends_13 : decode cX12_mends 13 = .ok (.iload 4, 2) := by decide +kernel
theorem dX12_mends_15 : decode cX12_mends 15 = .ok (.sipush 188, 3) := by decide +kernel
theorem dX12_mends_18 : decode cX12_mends 18 = .ok (.if_icmp .ge 106, 3) := by decide +kernel
theorem dX12_mends_21 : decode cX12_mends 21 = .ok (.iconst 0, 1) := by decide +kernel
theorem dX12_mends_22 : decode cX12_mends 22 = .ok (.istore 5, 2) := by decide +kernel
theorem dX12_mends_24 : decode cX12_mends 24 = .ok (.iconst 0, 1) := by decide +kernel
theorem dX12_mends_25 : decode cX12_mends 25 = .ok (.istore 6, 2) := by decide +kernel
theorem dX12_mends_27 : decode cX12_mends 27 = .ok (.iload 6, 2) := by decide +kernel
theorem dX12_mends_29 : decode cX12_mends 29 = .ok (.aload_n 0, 1) := by decide +kernel
theorem dX12_mends_30 : decode cX12_mends 30 = .ok (.getfield 498, 3) := by decide +kernel
theorem dX12_mends_33 : decode cX12_mends 33 = .ok (.if_icmp .ge 69, 3) := by decide +kernel
theorem dX12_mends_36 : decode cX12_mends 36 = .ok (.aload_n 0, 1) := by decide +kernel
theorem dX12_mends_37 : decode cX12_mends 37 = .ok (.iload_n 1, 1) := by decide +kernel
theorem dX12_mends_38 : decode cX12_mends 38 = .ok (.iload 6, 2) := by decide +kernel
theorem dX12_mends_40 : decode cX12_mends 40 = .ok (.invokevirtual 516, 3) := by decide +kernel
theorem dX12_mends_43 : decode cX12_mends 43 = .ok (.ifCond .eq 53, 3) := by decide +kernel
theorem dX12_mends_46 : decode cX12_mends 46 = .ok (.iload 5, 2) := by decide +kernel
theorem dX12_mends_48 : decode cX12_mends 48 = .ok (.aload_n 0, 1) := by decide +kernel
theorem dX12_mends_49 : decode cX12_mends 49 = .ok (.getfield 158, 3) := by decide +kernel
theorem dX12_mends_52 : decode cX12_mends 52 = .ok (.iload_n 3, 1) := by decide +kernel
theorem dX12_mends_53 : decode cX12_mends 53 = .ok (.iload 6, 2) := by decide +kernel
theorem dX12_mends_55 : decode cX12_mends 55 = .ok (.iadd, 1) := by decide +kernel
theorem dX12_mends_56 : decode cX12_mends 56 = .ok (.sipush 256, 3) := by decide +kernel
theorem dX12_mends_59 : decode cX12_mends 59 = .ok (.irem, 1) := by decide +kernel
theorem dX12_mends_60 : decode cX12_mends 60 = .ok (.sipush 188, 3) := by decide +kernel
theorem dX12_mends_63 : decode cX12_mends 63 = .ok (.imul, 1) := by decide +kernel
theorem dX12_mends_64 : decode cX12_mends 64 = .ok (.iload 4, 2) := by decide +kernel
theorem dX12_mends_66 : decode cX12_mends 66 = .ok (.iadd, 1) := by decide +kernel
theorem dX12_mends_67 : decode cX12_mends 67 = .ok (.baload, 1) := by decide +kernel
theorem dX12_mends_68 : decode cX12_mends 68 = .ok (.iload 6, 2) := by decide +kernel
theorem dX12_mends_70 : decode cX12_mends 70 = .ok (.iload_n 2, 1) := by decide +kernel
theorem dX12_mends_71 : decode cX12_mends 71 = .ok (.if_icmp .ne 7, 3) := by decide +kernel
theorem dX12_mends_74 : decode cX12_mends 74 = .ok (.iconst 0, 1) := by decide +kernel
theorem dX12_mends_75 : decode cX12_mends 75 = .ok (.goto 17, 3) := by decide +kernel
theorem dX12_mends_78 : decode cX12_mends 78 = .ok (.aload_n 0, 1) := by decide +kernel
theorem dX12_mends_79 : decode cX12_mends 79 = .ok (.getfield 173, 3) := by decide +kernel
theorem dX12_mends_82 : decode cX12_mends 82 = .ok (.iload 6, 2) := by decide +kernel
theorem dX12_mends_84 : decode cX12_mends 84 = .ok (.sipush 188, 3) := by decide +kernel
theorem dX12_mends_87 : decode cX12_mends 87 = .ok (.imul, 1) := by decide +kernel
theorem dX12_mends_88 : decode cX12_mends 88 = .ok (.iload 4, 2) := by decide +kernel
theorem dX12_mends_90 : decode cX12_mends 90 = .ok (.iadd, 1) := by decide +kernel
theorem dX12_mends_91 : decode cX12_mends 91 = .ok (.baload, 1) := by decide +kernel
theorem dX12_mends_92 : decode cX12_mends 92 = .ok (.ixor, 1) := by decide +kernel
theorem dX12_mends_93 : decode cX12_mends 93 = .ok (.ixor, 1) := by decide +kernel
theorem dX12_mends_94 : decode cX12_mends 94 = .ok (.istore 5, 2) := by decide +kernel
theorem dX12_mends_96 : decode cX12_mends 96 = .ok (.iinc 6 1, 3) := by decide +kernel
theorem dX12_mends_99 : decode cX12_mends 99 = .ok (.goto (-72), 3) := by decide +kernel
theorem dX12_mends_102 : decode cX12_mends 102 = .ok (.aload_n 0, 1) := by decide +kernel
theorem dX12_mends_103 : decode cX12_mends 103 = .ok (.getfield 173, 3) := by decide +kernel
theorem dX12_mends_106 : decode cX12_mends 106 = .ok (.iload_n 2, 1) := by decide +kernel
theorem dX12_mends_107 : decode cX12_mends 107 = .ok (.sipush 188, 3) := by decide +kernel
theorem dX12_mends_110 : decode cX12_mends 110 = .ok (.imul, 1) := by decide +kernel
theorem dX12_mends_111 : decode cX12_mends 111 = .ok (.iload 4, 2) := by decide +kernel
theorem dX12_mends_113 : decode cX12_mends 113 = .ok (.iadd, 1) := by decide +kernel
theorem dX12_mends_114 : decode cX12_mends 114 = .ok (.iload 5, 2) := by decide +kernel
theorem dX12_mends_116 : decode cX12_mends 116 = .ok (.i2b, 1) := by decide +kernel
theorem dX12_mends_117 : decode cX12_mends 117 = .ok (.bastore, 1) := by decide +kernel
theorem dX12_mends_118 : decode cX12_mends 118 = .ok (.iinc 4 1, 3) := by decide +kernel
theorem dX12_mends_121 : decode cX12_mends 121 = .ok (.goto (-108), 3) := by decide +kernel
theorem dX12_mends_124 : decode cX12_mends 124 = .ok (.aload_n 0, 1) := by decide +kernel
theorem dX12_mends_125 : decode cX12_mends 125 = .ok (.getfield 176, 3) := by decide +kernel
theorem dX12_mends_128 : decode cX12_mends 128 = .ok (.iload_n 2, 1) := by decide +kernel
theorem dX12_mends_129 : decode cX12_mends 129 = .ok (.iconst 0, 1) := by decide +kernel
theorem dX12_mends_130 : decode cX12_mends 130 = .ok (.bastore, 1) := by decide +kernel
theorem dX12_mends_131 : decode cX12_mends 131 = .ok (.aload_n 0, 1) := by decide +kernel
theorem dX12_mends_132 : decode cX12_mends 132 = .ok (.dup, 1) := by decide +kernel
theorem dX12_mends_133 : decode cX12_mends 133 = .ok (.getfield 519, 3) := by decide +kernel
theorem dX12_mends_136 : decode cX12_mends 136 = .ok (.iconst 1, 1) := by decide +kernel
theorem dX12_mends_137 : decode cX12_mends 137 = .ok (.iadd, 1) := by decide +kernel
theorem dX12_mends_138 : decode cX12_mends 138 = .ok (.putfield 519, 3) := by decide +kernel
theorem dX12_mends_141 : decode cX12_mends 141 = .ok (.return_, 1) := by decide +kernel
theorem dX12_blockEnds_0 : decode cX12_blockEnds 0 = .ok (.iconst 0, 1) := by decide +kernel
theorem dX12_blockEnds_1 : decode cX12_blockEnds 1 = .ok (.istore_n 1, 1) := by decide +kernel
theorem dX12_blockEnds_2 : decode cX12_blockEnds 2 = .ok (.iload_n 1, 1) := by decide +kernel
theorem dX12_blockEnds_3 : decode cX12_blockEnds 3 = .ok (.aload_n 0, 1) := by decide +kernel
theorem dX12_blockEnds_4 : decode cX12_blockEnds 4 = .ok (.getfield 504, 3) := by decide +kernel
theorem dX12_blockEnds_7 : decode cX12_blockEnds 7 = .ok (.aload_n 0, 1) := by decide +kernel
theorem dX12_blockEnds_8 : decode cX12_blockEnds 8 = .ok (.getfield 501, 3) := by decide +kernel
theorem dX12_blockEnds_11 : decode cX12_blockEnds 11 = .ok (.iadd, 1) := by decide +kernel
theorem dX12_blockEnds_12 : decode cX12_blockEnds 12 = .ok (.if_icmp .ge 54, 3) := by decide +kernel
theorem dX12_blockEnds_15 : decode cX12_blockEnds 15 = .ok (.aload_n 0, 1) := by decide +kernel
theorem dX12_blockEnds_16 : decode cX12_blockEnds 16 = .ok (.iconst 1, 1) := by decide +kernel
theorem dX12_blockEnds_17 : decode cX12_blockEnds 17 = .ok (.iload_n 1, 1) := by decide +kernel
theorem dX12_blockEnds_18 : decode cX12_blockEnds 18 = .ok (.iadd, 1) := by decide +kernel
theorem dX12_blockEnds_19 : decode cX12_blockEnds 19 = .ok (.aload_n 0, 1) := by decide +kernel
theorem dX12_blockEnds_20 : decode cX12_blockEnds 20 = .ok (.getfield 483, 3) := by decide +kernel
theorem dX12_blockEnds_23 : decode cX12_blockEnds 23 = .ok (.invokevirtual 507, 3) := by decide +kernel
theorem dX12_blockEnds_26 : decode cX12_blockEnds 26 = .ok (.ifCond .eq 7, 3) := by decide +kernel
theorem dX12_blockEnds_29 : decode cX12_blockEnds 29 = .ok (.iconst (-1), 1) := by decide +kernel
theorem dX12_blockEnds_30 : decode cX12_blockEnds 30 = .ok (.goto 8, 3) := by decide +kernel
theorem dX12_blockEnds_33 : decode cX12_blockEnds 33 = .ok (.aload_n 0, 1) := by decide +kernel
theorem dX12_blockEnds_34 : decode cX12_blockEnds 34 = .ok (.iload_n 1, 1) := by decide +kernel
theorem dX12_blockEnds_35 : decode cX12_blockEnds 35 = .ok (.invokevirtual 522, 3) := by decide +kernel
theorem dX12_blockEnds_38 : decode cX12_blockEnds 38 = .ok (.istore_n 2, 1) := by decide +kernel
theorem dX12_blockEnds_39 : decode cX12_blockEnds 39 = .ok (.iload_n 2, 1) := by decide +kernel
theorem dX12_blockEnds_40 : decode cX12_blockEnds 40 = .ok (.iconst (-1), 1) := by decide +kernel
theorem dX12_blockEnds_41 : decode cX12_blockEnds 41 = .ok (.if_icmp .eq 9, 3) := by decide +kernel
theorem dX12_blockEnds_44 : decode cX12_blockEnds 44 = .ok (.aload_n 0, 1) := by decide +kernel
theorem dX12_blockEnds_45 : decode cX12_blockEnds 45 = .ok (.iload_n 1, 1) := by decide +kernel
theorem dX12_blockEnds_46 : decode cX12_blockEnds 46 = .ok (.iload_n 2, 1) := by decide +kernel
theorem dX12_blockEnds_47 : decode cX12_blockEnds 47 = .ok (.invokevirtual 526, 3) := by decide +kernel
theorem dX12_blockEnds_50 : decode cX12_blockEnds 50 = .ok (.iload_n 2, 1) := by decide +kernel
theorem dX12_blockEnds_51 : decode cX12_blockEnds 51 = .ok (.iconst (-1), 1) := by decide +kernel
theorem dX12_blockEnds_52 : decode cX12_blockEnds 52 = .ok (.if_icmp .eq 7, 3) := by decide +kernel
theorem dX12_blockEnds_55 : decode cX12_blockEnds 55 = .ok (.iconst 0, 1) := by decide +kernel
theorem dX12_blockEnds_56 : decode cX12_blockEnds 56 = .ok (.goto 6, 3) := by decide +kernel
theorem dX12_blockEnds_59 : decode cX12_blockEnds 59 = .ok (.iload_n 1, 1) := by decide +kernel
theorem dX12_blockEnds_60 : decode cX12_blockEnds 60 = .ok (.iconst 1, 1) := by decide +kernel
theorem dX12_blockEnds_61 : decode cX12_blockEnds 61 = .ok (.iadd, 1) := by decide +kernel
theorem dX12_blockEnds_62 : decode cX12_blockEnds 62 = .ok (.istore_n 1, 1) := by decide +kernel
theorem dX12_blockEnds_63 : decode cX12_blockEnds 63 = .ok (.goto (-61), 3) := by decide +kernel
theorem dX12_blockEnds_66 : decode cX12_blockEnds 66 = .ok (.aload_n 0, 1) := by decide +kernel
theorem dX12_blockEnds_67 : decode cX12_blockEnds 67 = .ok (.getfield 437, 3) := by decide +kernel
theorem dX12_blockEnds_70 : decode cX12_blockEnds 70 = .ok (.aload_n 0, 1) := by decide +kernel
theorem dX12_blockEnds_71 : decode cX12_blockEnds 71 = .ok (.getfield 498, 3) := by decide +kernel
theorem dX12_blockEnds_74 : decode cX12_blockEnds 74 = .ok (.isub, 1) := by decide +kernel
theorem dX12_blockEnds_75 : decode cX12_blockEnds 75 = .ok (.istore_n 2, 1) := by decide +kernel
theorem dX12_blockEnds_76 : decode cX12_blockEnds 76 = .ok (.iconst 0, 1) := by decide +kernel
theorem dX12_blockEnds_77 : decode cX12_blockEnds 77 = .ok (.istore_n 3, 1) := by decide +kernel
theorem dX12_blockEnds_78 : decode cX12_blockEnds 78 = .ok (.iload_n 3, 1) := by decide +kernel
theorem dX12_blockEnds_79 : decode cX12_blockEnds 79 = .ok (.aload_n 0, 1) := by decide +kernel
theorem dX12_blockEnds_80 : decode cX12_blockEnds 80 = .ok (.getfield 498, 3) := by decide +kernel
theorem dX12_blockEnds_83 : decode cX12_blockEnds 83 = .ok (.if_icmp .ge 30, 3) := by decide +kernel
theorem dX12_blockEnds_86 : decode cX12_blockEnds 86 = .ok (.aload_n 0, 1) := by decide +kernel
theorem dX12_blockEnds_87 : decode cX12_blockEnds 87 = .ok (.getfield 176, 3) := by decide +kernel
theorem dX12_blockEnds_90 : decode cX12_blockEnds 90 = .ok (.iload_n 3, 1) := by decide +kernel
theorem dX12_blockEnds_91 : decode cX12_blockEnds 91 = .ok (.baload, 1) := by decide +kernel
theorem dX12_blockEnds_92 : decode cX12_blockEnds 92 = .ok (.ifCond .ne 15, 3) := by decide +kernel
theorem dX12_blockEnds_95 : decode cX12_blockEnds 95 = .ok (.aload_n 0, 1) := by decide +kernel
theorem dX12_blockEnds_96 : decode cX12_blockEnds 96 = .ok (.sipush 188, 3) := by decide +kernel
theorem dX12_blockEnds_99 : decode cX12_blockEnds 99 = .ok (.iload_n 3, 1) := by decide +kernel
theorem dX12_blockEnds_100 : decode cX12_blockEnds 100 = .ok (.imul, 1) := by decide +kernel
theorem dX12_blockEnds_101 : decode cX12_blockEnds 101 = .ok (.iload_n 2, 1) := by decide +kernel
theorem dX12_blockEnds_102 : decode cX12_blockEnds 102 = .ok (.iload_n 3, 1) := by decide +kernel
theorem dX12_blockEnds_103 : decode cX12_blockEnds 103 = .ok (.iadd, 1) := by decide +kernel
theorem dX12_blockEnds_104 : decode cX12_blockEnds 104 = .ok (.invokevirtual 529, 3) := by decide +kernel
theorem dX12_blockEnds_107 : decode cX12_blockEnds 107 = .ok (.iinc 3 1, 3) := by decide +kernel
theorem dX12_blockEnds_110 : decode cX12_blockEnds 110 = .ok (.goto (-32), 3) := by decide +kernel
theorem dX12_blockEnds_113 : decode cX12_blockEnds 113 = .ok (.aload_n 0, 1) := by decide +kernel
theorem dX12_blockEnds_114 : decode cX12_blockEnds 114 = .ok (.iconst 0, 1) := by decide +kernel
theorem dX12_blockEnds_115 : decode cX12_blockEnds 115 = .ok (.putfield 498, 3) := by decide +kernel
theorem dX12_blockEnds_118 : decode cX12_blockEnds 118 = .ok (.aload_n 0, 1) := by decide +kernel
theorem dX12_blockEnds_119 : decode cX12_blockEnds 119 = .ok (.dup, 1) := by decide +kernel
theorem dX12_blockEnds_120 : decode cX12_blockEnds 120 = .ok (.getfield 483, 3) := by decide +kernel
theorem dX12_blockEnds_123 : decode cX12_blockEnds 123 = .ok (.iconst 1, 1) := by decide +kernel
theorem dX12_blockEnds_124 : decode cX12_blockEnds 124 = .ok (.iadd, 1) := by decide +kernel
theorem dX12_blockEnds_125 : decode cX12_blockEnds 125 = .ok (.putfield 483, 3) := by decide +kernel
theorem dX12_blockEnds_128 : decode cX12_blockEnds 128 = .ok (.aload_n 0, 1) := by decide +kernel
theorem dX12_blockEnds_129 : decode cX12_blockEnds 129 = .ok (.getfield 532, 3) := by decide +kernel
theorem dX12_blockEnds_132 : decode cX12_blockEnds 132 = .ok (.bipush 8, 2) := by decide +kernel
theorem dX12_blockEnds_134 : decode cX12_blockEnds 134 = .ok (.iadd, 1) := by decide +kernel
theorem dX12_blockEnds_135 : decode cX12_blockEnds 135 = .ok (.aload_n 0, 1) := by decide +kernel
theorem dX12_blockEnds_136 : decode cX12_blockEnds 136 = .ok (.getfield 275, 3) := by decide +kernel
theorem dX12_blockEnds_139 : decode cX12_blockEnds 139 = .ok (.imul, 1) := by decide +kernel
theorem dX12_blockEnds_140 : decode cX12_blockEnds 140 = .ok (.aload_n 0, 1) := by decide +kernel
theorem dX12_blockEnds_141 : decode cX12_blockEnds 141 = .ok (.getfield 437, 3) := by decide +kernel
theorem dX12_blockEnds_144 : decode cX12_blockEnds 144 = .ok (.if_icmp .gt 24, 3) := by decide +kernel
theorem dX12_blockEnds_147 : decode cX12_blockEnds 147 = .ok (.aload_n 0, 1) := by decide +kernel
theorem dX12_blockEnds_148 : decode cX12_blockEnds 148 = .ok (.aload_n 0, 1) := by decide +kernel
theorem dX12_blockEnds_149 : decode cX12_blockEnds 149 = .ok (.getfield 532, 3) := by decide +kernel
theorem dX12_blockEnds_152 : decode cX12_blockEnds 152 = .ok (.invokevirtual 535, 3) := by decide +kernel
theorem dX12_blockEnds_155 : decode cX12_blockEnds 155 = .ok (.aload_n 0, 1) := by decide +kernel
theorem dX12_blockEnds_156 : decode cX12_blockEnds 156 = .ok (.dup, 1) := by decide +kernel
theorem dX12_blockEnds_157 : decode cX12_blockEnds 157 = .ok (.getfield 532, 3) := by decide +kernel
theorem dX12_blockEnds_160 : decode cX12_blockEnds 160 = .ok (.iconst 1, 1) := by decide +kernel
theorem dX12_blockEnds_161 : decode cX12_blockEnds 161 = .ok (.iadd, 1) := by decide +kernel
theorem dX12_blockEnds_162 : decode cX12_blockEnds 162 = .ok (.putfield 532, 3) := by decide +kernel
theorem dX12_blockEnds_165 : decode cX12_blockEnds 165 = .ok (.goto (-37), 3) := by decide +kernel
theorem dX12_blockEnds_168 : decode cX12_blockEnds 168 = .ok (.return_, 1) := by decide +kernel
theorem dX12_fault_0 : decode cX12_fault 0 = .ok (.aload_n 0, 1) := by decide +kernel
theorem dX12_fault_1 : decode cX12_fault 1 = .ok (.getfield 194, 3) := by decide +kernel
theorem dX12_fault_4 : decode cX12_fault 4 = .ok (.iload_n 1, 1) := by decide +kernel
theorem dX12_fault_5 : decode cX12_fault 5 = .ok (.dup2, 1) := by decide +kernel
theorem dX12_fault_6 : decode cX12_fault 6 = .ok (.iaload, 1) := by decide +kernel
theorem dX12_fault_7 : decode cX12_fault 7 = .ok (.iconst 1, 1) := by decide +kernel
theorem dX12_fault_8 : decode cX12_fault 8 = .ok (.iadd, 1) := by decide +kernel
theorem dX12_fault_9 : decode cX12_fault 9 = .ok (.iastore, 1) := by decide +kernel
theorem dX12_fault_10 : decode cX12_fault 10 = .ok (.aload_n 0, 1) := by decide +kernel
theorem dX12_fault_11 : decode cX12_fault 11 = .ok (.getfield 194, 3) := by decide +kernel
theorem dX12_fault_14 : decode cX12_fault 14 = .ok (.iconst 0, 1) := by decide +kernel
theorem dX12_fault_15 : decode cX12_fault 15 = .ok (.dup2, 1) := by decide +kernel
theorem dX12_fault_16 : decode cX12_fault 16 = .ok (.iaload, 1) := by decide +kernel
theorem dX12_fault_17 : decode cX12_fault 17 = .ok (.iconst 1, 1) := by decide +kernel
theorem dX12_fault_18 : decode cX12_fault 18 = .ok (.iadd, 1) := by decide +kernel
theorem dX12_fault_19 : decode cX12_fault 19 = .ok (.iastore, 1) := by decide +kernel
theorem dX12_fault_20 : decode cX12_fault 20 = .ok (.aload_n 0, 1) := by decide +kernel
theorem dX12_fault_21 : decode cX12_fault 21 = .ok (.getfield 194, 3) := by decide +kernel
theorem dX12_fault_24 : decode cX12_fault 24 = .ok (.iconst 0, 1) := by decide +kernel
theorem dX12_fault_25 : decode cX12_fault 25 = .ok (.iaload, 1) := by decide +kernel
theorem dX12_fault_26 : decode cX12_fault 26 = .ok (.iconst 1, 1) := by decide +kernel
theorem dX12_fault_27 : decode cX12_fault 27 = .ok (.if_icmp .ne 13, 3) := by decide +kernel
theorem dX12_fault_30 : decode cX12_fault 30 = .ok (.aload_n 0, 1) := by decide +kernel
theorem dX12_fault_31 : decode cX12_fault 31 = .ok (.iload_n 1, 1) := by decide +kernel
theorem dX12_fault_32 : decode cX12_fault 32 = .ok (.putfield 538, 3) := by decide +kernel
theorem dX12_fault_35 : decode cX12_fault 35 = .ok (.aload_n 0, 1) := by decide +kernel
theorem dX12_fault_36 : decode cX12_fault 36 = .ok (.iload_n 2, 1) := by decide +kernel
theorem dX12_fault_37 : decode cX12_fault 37 = .ok (.putfield 197, 3) := by decide +kernel
theorem dX12_fault_40 : decode cX12_fault 40 = .ok (.return_, 1) := by decide +kernel
theorem dX12_b_0 : decode cX12_b 0 = .ok (.aload_n 0, 1) := by decide +kernel
theorem dX12_b_1 : decode cX12_b 1 = .ok (.getfield 173, 3) := by decide +kernel
theorem dX12_b_4 : decode cX12_b 4 = .ok (.iload_n 1, 1) := by decide +kernel
theorem dX12_b_5 : decode cX12_b 5 = .ok (.baload, 1) := by decide +kernel
theorem dX12_b_6 : decode cX12_b 6 = .ok (.sipush 255, 3) := by decide +kernel
theorem dX12_b_9 : decode cX12_b 9 = .ok (.iand, 1) := by decide +kernel
theorem dX12_b_10 : decode cX12_b 10 = .ok (.ireturn, 1) := by decide +kernel
theorem dX12_bTwo_0 : decode cX12_bTwo 0 = .ok (.aload_n 0, 1) := by decide +kernel
theorem dX12_bTwo_1 : decode cX12_bTwo 1 = .ok (.iload_n 1, 1) := by decide +kernel
theorem dX12_bTwo_2 : decode cX12_bTwo 2 = .ok (.invokevirtual 541, 3) := by decide +kernel
theorem dX12_bTwo_5 : decode cX12_bTwo 5 = .ok (.bipush 8, 2) := by decide +kernel
theorem dX12_bTwo_7 : decode cX12_bTwo 7 = .ok (.ishl, 1) := by decide +kernel
theorem dX12_bTwo_8 : decode cX12_bTwo 8 = .ok (.aload_n 0, 1) := by decide +kernel
theorem dX12_bTwo_9 : decode cX12_bTwo 9 = .ok (.iload_n 1, 1) := by decide +kernel
theorem dX12_bTwo_10 : decode cX12_bTwo 10 = .ok (.iconst 1, 1) := by decide +kernel
theorem dX12_bTwo_11 : decode cX12_bTwo 11 = .ok (.iadd, 1) := by decide +kernel
theorem dX12_bTwo_12 : decode cX12_bTwo 12 = .ok (.invokevirtual 541, 3) := by decide +kernel
theorem dX12_bTwo_15 : decode cX12_bTwo 15 = .ok (.ior, 1) := by decide +kernel
theorem dX12_bTwo_16 : decode cX12_bTwo 16 = .ok (.ireturn, 1) := by decide +kernel
theorem dX12_whose_0 : decode cX12_whose 0 = .ok (.iload_n 1, 1) := by decide +kernel
theorem dX12_whose_1 : decode cX12_whose 1 = .ok (.ifCond .ne 5, 3) := by decide +kernel
theorem dX12_whose_4 : decode cX12_whose 4 = .ok (.iconst 0, 1) := by decide +kernel
theorem dX12_whose_5 : decode cX12_whose 5 = .ok (.ireturn, 1) := by decide +kernel
theorem dX12_whose_6 : decode cX12_whose 6 = .ok (.iconst 0, 1) := by decide +kernel
theorem dX12_whose_7 : decode cX12_whose 7 = .ok (.istore_n 2, 1) := by decide +kernel
theorem dX12_whose_8 : decode cX12_whose 8 = .ok (.iload_n 2, 1) := by decide +kernel
theorem dX12_whose_9 : decode cX12_whose 9 = .ok (.iconst 3, 1) := by decide +kernel
theorem dX12_whose_10 : decode cX12_whose 10 = .ok (.if_icmp .ge 23, 3) := by decide +kernel
theorem dX12_whose_13 : decode cX12_whose 13 = .ok (.aload_n 0, 1) := by decide +kernel
theorem dX12_whose_14 : decode cX12_whose 14 = .ok (.getfield 203, 3) := by decide +kernel
theorem dX12_whose_17 : decode cX12_whose 17 = .ok (.iload_n 2, 1) := by decide +kernel
theorem dX12_whose_18 : decode cX12_whose 18 = .ok (.iaload, 1) := by decide +kernel
theorem dX12_whose_19 : decode cX12_whose 19 = .ok (.iload_n 1, 1) := by decide +kernel
theorem dX12_whose_20 : decode cX12_whose 20 = .ok (.if_icmp .ne 7, 3) := by decide +kernel
theorem dX12_whose_23 : decode cX12_whose 23 = .ok (.iconst 1, 1) := by decide +kernel
theorem dX12_whose_24 : decode cX12_whose 24 = .ok (.iload_n 2, 1) := by decide +kernel
theorem dX12_whose_25 : decode cX12_whose 25 = .ok (.iadd, 1) := by decide +kernel
theorem dX12_whose_26 : decode cX12_whose 26 = .ok (.ireturn, 1) := by decide +kernel
theorem dX12_whose_27 : decode cX12_whose 27 = .ok (.iinc 2 1, 3) := by decide +kernel
theorem dX12_whose_30 : decode cX12_whose 30 = .ok (.goto (-22), 3) := by decide +kernel
theorem dX12_whose_33 : decode cX12_whose 33 = .ok (.iconst 0, 1) := by decide +kernel
theorem dX12_whose_34 : decode cX12_whose 34 = .ok (.istore_n 2, 1) := by decide +kernel
theorem dX12_whose_35 : decode cX12_whose 35 = .ok (.iload_n 2, 1) := by decide +kernel
theorem dX12_whose_36 : decode cX12_whose 36 = .ok (.iconst 3, 1) := by decide +kernel
theorem dX12_whose_37 : decode cX12_whose 37 = .ok (.if_icmp .ge 23, 3) := by decide +kernel
theorem dX12_whose_40 : decode cX12_whose 40 = .ok (.aload_n 0, 1) := by decide +kernel
theorem dX12_whose_41 : decode cX12_whose 41 = .ok (.getfield 206, 3) := by decide +kernel
theorem dX12_whose_44 : decode cX12_whose 44 = .ok (.iload_n 2, 1) := by decide +kernel
theorem dX12_whose_45 : decode cX12_whose 45 = .ok (.iaload, 1) := by decide +kernel
theorem dX12_whose_46 : decode cX12_whose 46 = .ok (.iload_n 1, 1) := by decide +kernel
theorem dX12_whose_47 : decode cX12_whose 47 = .ok (.if_icmp .ne 7, 3) := by decide +kernel
theorem dX12_whose_50 : decode cX12_whose 50 = .ok (.iconst 4, 1) := by decide +kernel
theorem dX12_whose_51 : decode cX12_whose 51 = .ok (.iload_n 2, 1) := by decide +kernel
theorem dX12_whose_52 : decode cX12_whose 52 = .ok (.iadd, 1) := by decide +kernel
theorem dX12_whose_53 : decode cX12_whose 53 = .ok (.ireturn, 1) := by decide +kernel
theorem dX12_whose_54 : decode cX12_whose 54 = .ok (.iinc 2 1, 3) := by decide +kernel
theorem dX12_whose_57 : decode cX12_whose 57 = .ok (.goto (-22), 3) := by decide +kernel
theorem dX12_whose_60 : decode cX12_whose 60 = .ok (.iconst (-1), 1) := by decide +kernel
theorem dX12_whose_61 : decode cX12_whose 61 = .ok (.ireturn, 1) := by decide +kernel
theorem dX12_judges_0 : decode cX12_judges 0 = .ok (.aload_n 0, 1) := by decide +kernel
theorem dX12_judges_1 : decode cX12_judges 1 = .ok (.iload_n 1, 1) := by decide +kernel
theorem dX12_judges_2 : decode cX12_judges 2 = .ok (.invokevirtual 541, 3) := by decide +kernel
theorem dX12_judges_5 : decode cX12_judges 5 = .ok (.bipush 71, 2) := by decide +kernel
theorem dX12_judges_7 : decode cX12_judges 7 = .ok (.if_icmp .ne 16, 3) := by decide +kernel
theorem dX12_judges_10 : decode cX12_judges 10 = .ok (.aload_n 0, 1) := by decide +kernel
theorem dX12_judges_11 : decode cX12_judges 11 = .ok (.iload_n 1, 1) := by decide +kernel
theorem dX12_judges_12 : decode cX12_judges 12 = .ok (.iconst 1, 1) := by decide +kernel
theorem dX12_judges_13 : decode cX12_judges 13 = .ok (.iadd, 1) := by decide +kernel
theorem dX12_judges_14 : decode cX12_judges 14 = .ok (.invokevirtual 541, 3) := by decide +kernel
theorem dX12_judges_17 : decode cX12_judges 17 = .ok (.sipush 128, 3) := by decide +kernel
theorem dX12_judges_20 : decode cX12_judges 20 = .ok (.if_icmp .lt 10, 3) := by decide +kernel
theorem dX12_judges_23 : decode cX12_judges 23 = .ok (.aload_n 0, 1) := by decide +kernel
theorem dX12_judges_24 : decode cX12_judges 24 = .ok (.iconst 1, 1) := by decide +kernel
theorem dX12_judges_25 : decode cX12_judges 25 = .ok (.iload_n 2, 1) := by decide +kernel
theorem dX12_judges_26 : decode cX12_judges 26 = .ok (.invokevirtual 544, 3) := by decide +kernel
theorem dX12_judges_29 : decode cX12_judges 29 = .ok (.return_, 1) := by decide +kernel
theorem dX12_judges_30 : decode cX12_judges 30 = .ok (.aload_n 0, 1) := by decide +kernel
theorem dX12_judges_31 : decode cX12_judges 31 = .ok (.iload_n 1, 1) := by decide +kernel
theorem dX12_judges_32 : decode cX12_judges 32 = .ok (.iconst 3, 1) := by decide +kernel
theorem dX12_judges_33 : decode cX12_judges 33 = .ok (.iadd, 1) := by decide +kernel
theorem dX12_judges_34 : decode cX12_judges 34 = .ok (.invokevirtual 541, 3) := by decide +kernel
theorem dX12_judges_37 : decode cX12_judges 37 = .ok (.bipush 16, 2) := by decide +kernel
theorem dX12_judges_39 : decode cX12_judges 39 = .ok (.iand, 1) := by decide +kernel
theorem dX12_judges_40 : decode cX12_judges 40 = .ok (.ifCond .le 7, 3) := by decide +kernel
theorem dX12_judges_43 : decode cX12_judges 43 = .ok (.iconst 1, 1) := by decide +kernel
theorem dX12_judges_44 : decode cX12_judges 44 = .ok (.goto 4, 3) := by decide +kernel
theorem dX12_judges_47 : decode cX12_judges 47 = .ok (.iconst 0, 1) := by decide +kernel
theorem dX12_judges_48 : decode cX12_judges 48 = .ok (.istore_n 3, 1) := by decide +kernel
theorem dX12_judges_49 : decode cX12_judges 49 = .ok (.aload_n 0, 1) := by decide +kernel
theorem dX12_judges_50 : decode cX12_judges 50 = .ok (.iload_n 1, 1) := by decide +kernel
theorem dX12_judges_51 : decode cX12_judges 51 = .ok (.iconst 3, 1) := by decide +kernel
theorem dX12_judges_52 : decode cX12_judges 52 = .ok (.iadd, 1) := by decide +kernel
theorem dX12_judges_53 : decode cX12_judges 53 = .ok (.invokevirtual 541, 3) := by decide +kernel
theorem dX12_judges_56 : decode cX12_judges 56 = .ok (.bipush 32, 2) := by decide +kernel
theorem dX12_judges_58 : decode cX12_judges 58 = .ok (.iand, 1) := by decide +kernel
theorem dX12_judges_59 : decode cX12_judges 59 = .ok (.ifCond .le 7, 3) := by decide +kernel
theorem dX12_judges_62 : decode cX12_judges 62 = .ok (.iconst 1, 1) := by decide +kernel
theorem dX12_judges_63 : decode cX12_judges 63 = .ok (.goto 4, 3) := by decide +kernel
theorem dX12_judges_66 : decode cX12_judges 66 = .ok (.iconst 0, 1) := by decide +kernel
theorem dX12_judges_67 : decode cX12_judges 67 = .ok (.istore 4, 2) := by decide +kernel
theorem dX12_judges_69 : decode cX12_judges 69 = .ok (.iload 4, 2) := by decide +kernel
theorem dX12_judges_71 : decode cX12_judges 71 = .ok (.ifCond .eq 13, 3) := by decide +kernel
theorem dX12_judges_74 : decode cX12_judges 74 = .ok (.aload_n 0, 1) := by decide +kernel
theorem dX12_judges_75 : decode cX12_judges 75 = .ok (.iload_n 1, 1) := by decide +kernel
theorem dX12_judges_76 : decode cX12_judges 76 = .ok (.iconst 4, 1) := by decide +kernel
theorem dX12_judges_77 : decode cX12_judges 77 = .ok (.iadd, 1) := by decide +kernel
theorem dX12_judges_78 : decode cX12_judges 78 = .ok (.invokevirtual 541, 3) := by decide +kernel
theorem dX12_judges_81 : decode cX12_judges 81 = .ok (.goto 4, 3) := by decide +kernel
theorem dX12_judges_84 : decode cX12_judges 84 = .ok (.iconst (-1), 1) := by decide +kernel
theorem dX12_judges_85 : decode cX12_judges 85 = .ok (.istore 5, 2) := by decide +kernel
theorem dX12_judges_87 : decode cX12_judges 87 = .ok (.iload 5, 2) := by decide +kernel
theorem dX12_judges_89 : decode cX12_judges 89 = .ok (.ifCond .le 20, 3) := by decide +kernel
theorem dX12_judges_92 : decode cX12_judges 92 = .ok (.aload_n 0, 1) := by decide +kernel
theorem dX12_judges_93 : decode cX12_judges 93 = .ok (.iload_n 1, 1) := by decide +kernel
theorem dX12_judges_94 : decode cX12_judges 94 = .ok (.iconst 5, 1) := by decide +kernel
theorem dX12_judges_95 : decode cX12_judges 95 = .ok (.iadd, 1) := by decide +kernel
theorem dX12_judges_96 : decode cX12_judges 96 = .ok (.invokevirtual 541, 3) := by decide +kernel
theorem dX12_judges_99 : decode cX12_judges 99 = .ok (.bipush 16, 2) := by decide +kernel
theorem dX12_judges_101 : decode cX12_judges 101 = .ok (.iand, 1) := by decide +kernel
theorem dX12_judges_102 : decode cX12_judges 102 = .ok (.ifCond .le 7, 3) := by decide +kernel
theorem dX12_judges_105 : decode cX12_judges 105 = .ok (.iconst 1, 1) := by decide +kernel
theorem dX12_judges_106 : decode cX12_judges 106 = .ok (.goto 4, 3) := by decide +kernel
theorem dX12_judges_109 : decode cX12_judges 109 = .ok (.iconst 0, 1) := by decide +kernel
theorem dX12_judges_110 : decode cX12_judges 110 = .ok (.istore 6, 2) := by decide +kernel
theorem dX12_judges_112 : decode cX12_judges 112 = .ok (.iload_n 3, 1) := by decide +kernel
theorem dX12_judges_113 : decode cX12_judges 113 = .ok (.ifCond .ne 8, 3) := by decide +kernel
theorem dX12_judges_116 : decode cX12_judges 116 = .ok (.iload 4, 2) := by decide +kernel
theorem dX12_judges_118 : decode cX12_judges 118 = .ok (.ifCond .eq 33, 3) := by decide +kernel
theorem dX12_judges_121 : decode cX12_judges 121 = .ok (.iload 5, 2) := by decide +kernel
theorem dX12_judges_123 : decode cX12_judges 123 = .ok (.iload_n 3, 1) := by decide +kernel
theorem dX12_judges_124 : decode cX12_judges 124 = .ok (.ifCond .eq 9, 3) := by decide +kernel
theorem dX12_judges_127 : decode cX12_judges 127 = .ok (.sipush 182, 3) := by decide +kernel
theorem dX12_judges_130 : decode cX12_judges 130 = .ok (.goto 6, 3) := by decide +kernel
theorem dX12_judges_133 : decode cX12_judges 133 = .ok (.sipush 183, 3) := by decide +kernel
theorem dX12_judges_136 : decode cX12_judges 136 = .ok (.if_icmp .gt 15, 3) := by decide +kernel
theorem dX12_judges_139 : decode cX12_judges 139 = .ok (.iload 6, 2) := by decide +kernel
theorem dX12_judges_141 : decode cX12_judges 141 = .ok (.ifCond .eq 17, 3) := by decide +kernel
theorem dX12_judges_144 : decode cX12_judges 144 = .ok (.iload 5, 2) := by decide +kernel
theorem dX12_judges_146 : decode cX12_judges 146 = .ok (.bipush 7, 2) := by decide +kernel
theorem dX12_judges_148 : decode cX12_judges 148 = .ok (.if_icmp .ge 10, 3) := by decide +kernel
theorem dX12_judges_151 : decode cX12_judges 151 = .ok (.aload_n 0, 1) := by decide +kernel
theorem dX12_judges_152 : decode cX12_judges 152 = .ok (.iconst 2, 1) := by decide +kernel
theorem dX12_judges_153 : decode cX12_judges 153 = .ok (.iload_n 2, 1) := by decide +kernel
theorem dX12_judges_154 : decode cX12_judges 154 = .ok (.invokevirtual 544, 3) := by decide +kernel
theorem dX12_judges_157 : decode cX12_judges 157 = .ok (.return_, 1) := by decide +kernel
theorem dX12_judges_158 : decode cX12_judges 158 = .ok (.aload_n 0, 1) := by decide +kernel
theorem dX12_judges_159 : decode cX12_judges 159 = .ok (.iload_n 1, 1) := by decide +kernel
theorem dX12_judges_160 : decode cX12_judges 160 = .ok (.iconst 1, 1) := by decide +kernel
theorem dX12_judges_161 : decode cX12_judges 161 = .ok (.iadd, 1) := by decide +kernel
theorem dX12_judges_162 : decode cX12_judges 162 = .ok (.invokevirtual 547, 3) := by decide +kernel
theorem dX12_judges_165 : decode cX12_judges 165 = .ok (.sipush 8191, 3) := by decide +kernel
theorem dX12_judges_168 : decode cX12_judges 168 = .ok (.iand, 1) := by decide +kernel
theorem dX12_judges_169 : decode cX12_judges 169 = .ok (.istore 7, 2) := by decide +kernel
theorem dX12_judges_171 : decode cX12_judges 171 = .ok (.aload_n 0, 1) := by decide +kernel
theorem dX12_judges_172 : decode cX12_judges 172 = .ok (.iload 7, 2) := by decide +kernel
theorem dX12_judges_174 : decode cX12_judges 174 = .ok (.invokevirtual 550, 3) := by decide +kernel
theorem dX12_judges_177 : decode cX12_judges 177 = .ok (.istore 8, 2) := by decide +kernel
theorem dX12_judges_179 : decode cX12_judges 179 = .ok (.iload 8, 2) := by decide +kernel
theorem dX12_judges_181 : decode cX12_judges 181 = .ok (.iconst (-1), 1) := by decide +kernel
theorem dX12_judges_182 : decode cX12_judges 182 = .ok (.if_icmp .ne 4, 3) := by decide +kernel
theorem dX12_judges_185 : decode cX12_judges 185 = .ok (.return_, 1) := by decide +kernel
theorem dX12_judges_186 : decode cX12_judges 186 = .ok (.aload_n 0, 1) := by decide +kernel
theorem dX12_judges_187 : decode cX12_judges 187 = .ok (.iload_n 1, 1) := by decide +kernel
theorem dX12_judges_188 : decode cX12_judges 188 = .ok (.iconst 3, 1) := by decide +kernel
theorem dX12_judges_189 : decode cX12_judges 189 = .ok (.iadd, 1) := by decide +kernel
theorem dX12_judges_190 : decode cX12_judges 190 = .ok (.invokevirtual 541, 3) := by decide +kernel
theorem dX12_judges_193 : decode cX12_judges 193 = .ok (.bipush 15, 2) := by decide +kernel
theorem dX12_judges_195 : decode cX12_judges 195 = .ok (.iand, 1) := by decide +kernel
theorem dX12_judges_196 : decode cX12_judges 196 = .ok (.istore 9, 2) := by decide +kernel
theorem dX12_judges_198 : decode cX12_judges 198 = .ok (.iload_n 3, 1) := by decide +kernel
theorem dX12_judges_199 : decode cX12_judges 199 = .ok (.ifCond .eq 18, 3) := by decide +kernel
theorem dX12_judges_202 : decode cX12_judges 202 = .ok (.aload_n 0, 1) := by decide +kernel
theorem dX12_judges_203 : decode cX12_judges 203 = .ok (.getfield 200, 3) := by decide +kernel
theorem dX12_judges_206 : decode cX12_judges 206 = .ok (.iload 7, 2) := by decide +kernel
theorem dX12_judges_208 : decode cX12_judges 208 = .ok (.iaload, 1) := by decide +kernel
theorem dX12_judges_209 : decode cX12_judges 209 = .ok (.iconst 1, 1) := by decide +kernel
theorem dX12_judges_210 : decode cX12_judges 210 = .ok (.iadd, 1) := by decide +kernel
theorem dX12_judges_211 : decode cX12_judges 211 = .ok (.bipush 15, 2) := by decide +kernel
theorem dX12_judges_213 : decode cX12_judges 213 = .ok (.iand, 1) := by decide +kernel
theorem dX12_judges_214 : decode cX12_judges 214 = .ok (.goto 10, 3) := by decide +kernel
theorem dX12_judges_217 : decode cX12_judges 217 = .ok (.aload_n 0, 1) := by decide +kernel
theorem dX12_judges_218 : decode cX12_judges 218 = .ok (.getfield 200, 3) := by decide +kernel
theorem dX12_judges_221 : decode cX12_judges 221 = .ok (.iload 7, 2) := by decide +kernel
theorem dX12_judges_223 : decode cX12_judges 223 = .ok (.iaload, 1) := by decide +kernel
theorem dX12_judges_224 : decode cX12_judges 224 = .ok (.istore 10, 2) := by decide +kernel
theorem dX12_judges_226 : decode cX12_judges 226 = .ok (.aload_n 0, 1) := by decide +kernel
theorem dX12_judges_227 : decode cX12_judges 227 = .ok (.getfield 200, 3) := by decide +kernel
theorem dX12_judges_230 : decode cX12_judges 230 = .ok (.iload 7, 2) := by decide +kernel
theorem dX12_judges_232 : decode cX12_judges 232 = .ok (.iaload, 1) := by decide +kernel
theorem dX12_judges_233 : decode cX12_judges 233 = .ok (.iconst (-1), 1) := by decide +kernel
theorem dX12_judges_234 : decode cX12_judges 234 = .ok (.if_icmp .eq 32, 3) := by decide +kernel
theorem dX12_judges_237 : decode cX12_judges 237 = .ok (.iload 9, 2) := by decide +kernel
theorem dX12_judges_239 : decode cX12_judges 239 = .ok (.iload 10, 2) := by decide +kernel
theorem dX12_judges_241 : decode cX12_judges 241 = .ok (.if_icmp .eq 25, 3) := by decide +kernel
theorem dX12_judges_244 : decode cX12_judges 244 = .ok (.aload_n 0, 1) := by decide +kernel
theorem dX12_judges_245 : decode cX12_judges 245 = .ok (.iconst 3, 1) := by decide +kernel
theorem dX12_judges_246 : decode cX12_judges 246 = .ok (.iload_n 2, 1) := by decide +kernel
theorem dX12_judges_247 : decode cX12_judges 247 = .ok (.invokevirtual 544, 3) := by decide +kernel
theorem dX12_judges_250 : decode cX12_judges 250 = .ok (.iload 8, 2) := by decide +kernel
theorem dX12_judges_252 : decode cX12_judges 252 = .ok (.iconst 4, 1) := by decide +kernel
theorem dX12_judges_253 : decode cX12_judges 253 = .ok (.if_icmp .lt 13, 3) := by decide +kernel
theorem dX12_judges_256 : decode cX12_judges 256 = .ok (.aload_n 0, 1) := by decide +kernel
theorem dX12_judges_257 : decode cX12_judges 257 = .ok (.getfield 212, 3) := by decide +kernel
theorem dX12_judges_260 : decode cX12_judges 260 = .ok (.iload 8, 2) := by decide +kernel
theorem dX12_judges_262 : decode cX12_judges 262 = .ok (.iconst 4, 1) := by decide +kernel
theorem dX12_judges_263 : decode cX12_judges 263 = .ok (.isub, 1) := by decide +kernel
theorem dX12_judges_264 : decode cX12_judges 264 = .ok (.iconst (-1), 1) := by decide +kernel
theorem dX12_judges_265 : decode cX12_judges 265 = .ok (.iastore, 1) := by decide +kernel
theorem dX12_judges_266 : decode cX12_judges 266 = .ok (.aload_n 0, 1) := by decide +kernel
theorem dX12_judges_267 : decode cX12_judges 267 = .ok (.getfield 200, 3) := by decide +kernel
theorem dX12_judges_270 : decode cX12_judges 270 = .ok (.iload 7, 2) := by decide +kernel
theorem dX12_judges_272 : decode cX12_judges 272 = .ok (.iload 9, 2) := by decide +kernel
theorem dX12_judges_274 : decode cX12_judges 274 = .ok (.iastore, 1) := by decide +kernel
theorem dX12_judges_275 : decode cX12_judges 275 = .ok (.iload 8, 2) := by decide +kernel
theorem dX12_judges_277 : decode cX12_judges 277 = .ok (.iconst 4, 1) := by decide +kernel
theorem dX12_judges_278 : decode cX12_judges 278 = .ok (.if_icmp .lt 18, 3) := by decide +kernel
theorem dX12_judges_281 : decode cX12_judges 281 = .ok (.iload 6, 2) := by decide +kernel
theorem dX12_judges_283 : decode cX12_judges 283 = .ok (.ifCond .eq 13, 3) := by decide +kernel
theorem dX12_judges_286 : decode cX12_judges 286 = .ok (.aload_n 0, 1) := by decide +kernel
theorem dX12_judges_287 : decode cX12_judges 287 = .ok (.iload 8, 2) := by decide +kernel
theorem dX12_judges_289 : decode cX12_judges 289 = .ok (.iconst 4, 1) := by decide +kernel
theorem dX12_judges_290 : decode cX12_judges 290 = .ok (.isub, 1) := by decide +kernel
theorem dX12_judges_291 : decode cX12_judges 291 = .ok (.iload_n 1, 1) := by decide +kernel
theorem dX12_judges_292 : decode cX12_judges 292 = .ok (.iload_n 2, 1) := by decide +kernel
theorem dX12_judges_293 : decode cX12_judges 293 = .ok (.invokevirtual 553, 3) := by decide +kernel
theorem dX12_judges_296 : decode cX12_judges 296 = .ok (.iload_n 1, 1) := by decide +kernel
theorem dX12_judges_297 : decode cX12_judges 297 = .ok (.iconst 5, 1) := by decide +kernel
theorem dX12_judges_298 : decode cX12_judges 298 = .ok (.iadd, 1) := by decide +kernel
theorem dX12_judges_299 : decode cX12_judges 299 = .ok (.iload 5, 2) := by decide +kernel
theorem dX12_judges_301 : decode cX12_judges 301 = .ok (.iadd, 1) := by decide +kernel
theorem dX12_judges_302 : decode cX12_judges 302 = .ok (.istore 11, 2) := by decide +kernel
theorem dX12_judges_304 : decode cX12_judges 304 = .ok (.iload_n 3, 1) := by decide +kernel
theorem dX12_judges_305 : decode cX12_judges 305 = .ok (.ifCond .eq 24, 3) := by decide +kernel
theorem dX12_judges_308 : decode cX12_judges 308 = .ok (.iload 8, 2) := by decide +kernel
theorem dX12_judges_310 : decode cX12_judges 310 = .ok (.iconst 4, 1) := by decide +kernel
theorem dX12_judges_311 : decode cX12_judges 311 = .ok (.if_icmp .ge 18, 3) := by decide +kernel
theorem dX12_judges_314 : decode cX12_judges 314 = .ok (.aload_n 0, 1) := by decide +kernel
theorem dX12_judges_315 : decode cX12_judges 315 = .ok (.iload 8, 2) := by decide +kernel
theorem dX12_judges_317 : decode cX12_judges 317 = .ok (.iconst 1, 1) := by decide +kernel
theorem dX12_judges_318 : decode cX12_judges 318 = .ok (.isub, 1) := by decide +kernel
theorem dX12_judges_319 : decode cX12_judges 319 = .ok (.iload_n 1, 1) := by decide +kernel
theorem dX12_judges_320 : decode cX12_judges 320 = .ok (.iload 11, 2) := by decide +kernel
theorem dX12_judges_322 : decode cX12_judges 322 = .ok (.iload_n 2, 1) := by decide +kernel
theorem dX12_judges_323 : decode cX12_judges 323 = .ok (.invokevirtual 556, 3) := by decide +kernel
