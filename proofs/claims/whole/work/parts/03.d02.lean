theorem dX9_makeList_143 : decode cX9_makeList 143 = .ok (.aload_n 0, 1) := by decide +kernel
theorem dX9_makeList_144 : decode cX9_makeList 144 = .ok (.getfield 10, 3) := by decide +kernel
theorem dX9_makeList_147 : decode cX9_makeList 147 = .ok (.iload_n 3, 1) := by decide +kernel
theorem dX9_makeList_148 : decode cX9_makeList 148 = .ok (.iconst 2, 1) := by decide +kernel
theorem dX9_makeList_149 : decode cX9_makeList 149 = .ok (.iadd, 1) := by decide +kernel
theorem dX9_makeList_150 : decode cX9_makeList 150 = .ok (.ldc 105, 2) := by decide +kernel
theorem dX9_makeList_152 : decode cX9_makeList 152 = .ok (.bipush 16, 2) := by decide +kernel
theorem dX9_makeList_154 : decode cX9_makeList 154 = .ok (.iload 4, 2) := by decide +kernel
theorem dX9_makeList_156 : decode cX9_makeList 156 = .ok (.imul, 1) := by decide +kernel
theorem dX9_makeList_157 : decode cX9_makeList 157 = .ok (.iadd, 1) := by decide +kernel
theorem dX9_makeList_158 : decode cX9_makeList 158 = .ok (.invokestatic 91, 3) := by decide +kernel
theorem dX9_makeList_161 : decode cX9_makeList 161 = .ok (.iinc 3 4, 3) := by decide +kernel
theorem dX9_makeList_164 : decode cX9_makeList 164 = .ok (.iinc 4 1, 3) := by decide +kernel
theorem dX9_makeList_167 : decode cX9_makeList 167 = .ok (.goto (-58), 3) := by decide +kernel
theorem dX9_makeList_170 : decode cX9_makeList 170 = .ok (.aload_n 0, 1) := by decide +kernel
theorem dX9_makeList_171 : decode cX9_makeList 171 = .ok (.getfield 10, 3) := by decide +kernel
theorem dX9_makeList_174 : decode cX9_makeList 174 = .ok (.iload_n 3, 1) := by decide +kernel
theorem dX9_makeList_175 : decode cX9_makeList 175 = .ok (.aload_n 0, 1) := by decide +kernel
theorem dX9_makeList_176 : decode cX9_makeList 176 = .ok (.getfield 10, 3) := by decide +kernel
theorem dX9_makeList_179 : decode cX9_makeList 179 = .ok (.iload_n 2, 1) := by decide +kernel
theorem dX9_makeList_180 : decode cX9_makeList 180 = .ok (.iload_n 3, 1) := by decide +kernel
theorem dX9_makeList_181 : decode cX9_makeList 181 = .ok (.invokestatic 106, 3) := by decide +kernel
theorem dX9_makeList_184 : decode cX9_makeList 184 = .ok (.invokestatic 110, 3) := by decide +kernel
theorem dX9_makeList_187 : decode cX9_makeList 187 = .ok (.return_, 1) := by decide +kernel
theorem dX9_makeTable_0 : decode cX9_makeTable 0 = .ok (.aload_n 0, 1) := by decide +kernel
theorem dX9_makeTable_1 : decode cX9_makeTable 1 = .ok (.sipush 256, 3) := by decide +kernel
theorem dX9_makeTable_4 : decode cX9_makeTable 4 = .ok (.bipush 16, 2) := by decide +kernel
theorem dX9_makeTable_6 : decode cX9_makeTable 6 = .ok (.iload_n 1, 1) := by decide +kernel
theorem dX9_makeTable_7 : decode cX9_makeTable 7 = .ok (.imul, 1) := by decide +kernel
theorem dX9_makeTable_8 : decode cX9_makeTable 8 = .ok (.iadd, 1) := by decide +kernel
theorem dX9_makeTable_9 : decode cX9_makeTable 9 = .ok (.iconst 1, 1) := by decide +kernel
theorem dX9_makeTable_10 : decode cX9_makeTable 10 = .ok (.bipush 16, 2) := by decide +kernel
theorem dX9_makeTable_12 : decode cX9_makeTable 12 = .ok (.aload_n 0, 1) := by decide +kernel
theorem dX9_makeTable_13 : decode cX9_makeTable 13 = .ok (.iconst 1, 1) := by decide +kernel
theorem dX9_makeTable_14 : decode cX9_makeTable 14 = .ok (.iload_n 1, 1) := by decide +kernel
theorem dX9_makeTable_15 : decode cX9_makeTable 15 = .ok (.iadd, 1) := by decide +kernel
theorem dX9_makeTable_16 : decode cX9_makeTable 16 = .ok (.iconst 1, 1) := by decide +kernel
theorem dX9_makeTable_17 : decode cX9_makeTable 17 = .ok (.invokevirtual 97, 3) := by decide +kernel
theorem dX9_makeTable_20 : decode cX9_makeTable 20 = .ok (.invokevirtual 101, 3) := by decide +kernel
theorem dX9_makeTable_23 : decode cX9_makeTable 23 = .ok (.aload_n 0, 1) := by decide +kernel
theorem dX9_makeTable_24 : decode cX9_makeTable 24 = .ok (.getfield 56, 3) := by decide +kernel
theorem dX9_makeTable_27 : decode cX9_makeTable 27 = .ok (.iconst 5, 1) := by decide +kernel
theorem dX9_makeTable_28 : decode cX9_makeTable 28 = .ok (.iadd, 1) := by decide +kernel
theorem dX9_makeTable_29 : decode cX9_makeTable 29 = .ok (.istore_n 2, 1) := by decide +kernel
theorem dX9_makeTable_30 : decode cX9_makeTable 30 = .ok (.ldc 113, 2) := by decide +kernel
theorem dX9_makeTable_32 : decode cX9_makeTable 32 = .ok (.bipush 16, 2) := by decide +kernel
theorem dX9_makeTable_34 : decode cX9_makeTable 34 = .ok (.iload_n 1, 1) := by decide +kernel
theorem dX9_makeTable_35 : decode cX9_makeTable 35 = .ok (.imul, 1) := by decide +kernel
theorem dX9_makeTable_36 : decode cX9_makeTable 36 = .ok (.iadd, 1) := by decide +kernel
theorem dX9_makeTable_37 : decode cX9_makeTable 37 = .ok (.istore_n 3, 1) := by decide +kernel
theorem dX9_makeTable_38 : decode cX9_makeTable 38 = .ok (.aload_n 0, 1) := by decide +kernel
theorem dX9_makeTable_39 : decode cX9_makeTable 39 = .ok (.getfield 10, 3) := by decide +kernel
theorem dX9_makeTable_42 : decode cX9_makeTable 42 = .ok (.aload_n 0, 1) := by decide +kernel
theorem dX9_makeTable_43 : decode cX9_makeTable 43 = .ok (.getfield 56, 3) := by decide +kernel
theorem dX9_makeTable_46 : decode cX9_makeTable 46 = .ok (.iconst 4, 1) := by decide +kernel
theorem dX9_makeTable_47 : decode cX9_makeTable 47 = .ok (.iadd, 1) := by decide +kernel
theorem dX9_makeTable_48 : decode cX9_makeTable 48 = .ok (.iconst 0, 1) := by decide +kernel
theorem dX9_makeTable_49 : decode cX9_makeTable 49 = .ok (.bastore, 1) := by decide +kernel
theorem dX9_makeTable_50 : decode cX9_makeTable 50 = .ok (.aload_n 0, 1) := by decide +kernel
theorem dX9_makeTable_51 : decode cX9_makeTable 51 = .ok (.getfield 10, 3) := by decide +kernel
theorem dX9_makeTable_54 : decode cX9_makeTable 54 = .ok (.iload_n 2, 1) := by decide +kernel
theorem dX9_makeTable_55 : decode cX9_makeTable 55 = .ok (.sipush 688, 3) := by decide +kernel
theorem dX9_makeTable_58 : decode cX9_makeTable 58 = .ok (.invokestatic 91, 3) := by decide +kernel
theorem dX9_makeTable_61 : decode cX9_makeTable 61 = .ok (.aload_n 0, 1) := by decide +kernel
theorem dX9_makeTable_62 : decode cX9_makeTable 62 = .ok (.getfield 10, 3) := by decide +kernel
theorem dX9_makeTable_65 : decode cX9_makeTable 65 = .ok (.iload_n 2, 1) := by decide +kernel
theorem dX9_makeTable_66 : decode cX9_makeTable 66 = .ok (.iconst 2, 1) := by decide +kernel
theorem dX9_makeTable_67 : decode cX9_makeTable 67 = .ok (.iadd, 1) := by decide +kernel
theorem dX9_makeTable_68 : decode cX9_makeTable 68 = .ok (.bipush 18, 2) := by decide +kernel
theorem dX9_makeTable_70 : decode cX9_makeTable 70 = .ok (.bastore, 1) := by decide +kernel
theorem dX9_makeTable_71 : decode cX9_makeTable 71 = .ok (.aload_n 0, 1) := by decide +kernel
theorem dX9_makeTable_72 : decode cX9_makeTable 72 = .ok (.getfield 10, 3) := by decide +kernel
theorem dX9_makeTable_75 : decode cX9_makeTable 75 = .ok (.iload_n 2, 1) := by decide +kernel
theorem dX9_makeTable_76 : decode cX9_makeTable 76 = .ok (.iconst 3, 1) := by decide +kernel
theorem dX9_makeTable_77 : decode cX9_makeTable 77 = .ok (.iadd, 1) := by decide +kernel
theorem dX9_makeTable_78 : decode cX9_makeTable 78 = .ok (.iload_n 1, 1) := by decide +kernel
theorem dX9_makeTable_79 : decode cX9_makeTable 79 = .ok (.iconst 1, 1) := by decide +kernel
theorem dX9_makeTable_80 : decode cX9_makeTable 80 = .ok (.iadd, 1) := by decide +kernel
theorem dX9_makeTable_81 : decode cX9_makeTable 81 = .ok (.invokestatic 91, 3) := by decide +kernel
theorem dX9_makeTable_84 : decode cX9_makeTable 84 = .ok (.aload_n 0, 1) := by decide +kernel
theorem dX9_makeTable_85 : decode cX9_makeTable 85 = .ok (.getfield 10, 3) := by decide +kernel
theorem dX9_makeTable_88 : decode cX9_makeTable 88 = .ok (.iload_n 2, 1) := by decide +kernel
theorem dX9_makeTable_89 : decode cX9_makeTable 89 = .ok (.iconst 5, 1) := by decide +kernel
theorem dX9_makeTable_90 : decode cX9_makeTable 90 = .ok (.iadd, 1) := by decide +kernel
theorem dX9_makeTable_91 : decode cX9_makeTable 91 = .ok (.bipush (-63), 2) := by decide +kernel
theorem dX9_makeTable_93 : decode cX9_makeTable 93 = .ok (.bastore, 1) := by decide +kernel
theorem dX9_makeTable_94 : decode cX9_makeTable 94 = .ok (.aload_n 0, 1) := by decide +kernel
theorem dX9_makeTable_95 : decode cX9_makeTable 95 = .ok (.getfield 10, 3) := by decide +kernel
theorem dX9_makeTable_98 : decode cX9_makeTable 98 = .ok (.iload_n 2, 1) := by decide +kernel
theorem dX9_makeTable_99 : decode cX9_makeTable 99 = .ok (.bipush 6, 2) := by decide +kernel
theorem dX9_makeTable_101 : decode cX9_makeTable 101 = .ok (.iadd, 1) := by decide +kernel
theorem dX9_makeTable_102 : decode cX9_makeTable 102 = .ok (.iconst 0, 1) := by decide +kernel
theorem dX9_makeTable_103 : decode cX9_makeTable 103 = .ok (.invokestatic 91, 3) := by decide +kernel
theorem dX9_makeTable_106 : decode cX9_makeTable 106 = .ok (.aload_n 0, 1) := by decide +kernel
theorem dX9_makeTable_107 : decode cX9_makeTable 107 = .ok (.getfield 10, 3) := by decide +kernel
theorem dX9_makeTable_110 : decode cX9_makeTable 110 = .ok (.iload_n 2, 1) := by decide +kernel
theorem dX9_makeTable_111 : decode cX9_makeTable 111 = .ok (.bipush 8, 2) := by decide +kernel
theorem dX9_makeTable_113 : decode cX9_makeTable 113 = .ok (.iadd, 1) := by decide +kernel
theorem dX9_makeTable_114 : decode cX9_makeTable 114 = .ok (.iload_n 3, 1) := by decide +kernel
theorem dX9_makeTable_115 : decode cX9_makeTable 115 = .ok (.invokestatic 91, 3) := by decide +kernel
theorem dX9_makeTable_118 : decode cX9_makeTable 118 = .ok (.aload_n 0, 1) := by decide +kernel
theorem dX9_makeTable_119 : decode cX9_makeTable 119 = .ok (.getfield 10, 3) := by decide +kernel
theorem dX9_makeTable_122 : decode cX9_makeTable 122 = .ok (.iload_n 2, 1) := by decide +kernel
theorem dX9_makeTable_123 : decode cX9_makeTable 123 = .ok (.bipush 10, 2) := by decide +kernel
theorem dX9_makeTable_125 : decode cX9_makeTable 125 = .ok (.iadd, 1) := by decide +kernel
theorem dX9_makeTable_126 : decode cX9_makeTable 126 = .ok (.ldc 114, 2) := by decide +kernel
theorem dX9_makeTable_128 : decode cX9_makeTable 128 = .ok (.invokestatic 91, 3) := by decide +kernel
theorem dX9_makeTable_131 : decode cX9_makeTable 131 = .ok (.aload_n 0, 1) := by decide +kernel
theorem dX9_makeTable_132 : decode cX9_makeTable 132 = .ok (.getfield 10, 3) := by decide +kernel
theorem dX9_makeTable_135 : decode cX9_makeTable 135 = .ok (.iload_n 2, 1) := by decide +kernel
theorem dX9_makeTable_136 : decode cX9_makeTable 136 = .ok (.bipush 12, 2) := by decide +kernel
theorem dX9_makeTable_138 : decode cX9_makeTable 138 = .ok (.iadd, 1) := by decide +kernel
theorem dX9_makeTable_139 : decode cX9_makeTable 139 = .ok (.bipush 27, 2) := by decide +kernel
theorem dX9_makeTable_141 : decode cX9_makeTable 141 = .ok (.bastore, 1) := by decide +kernel
theorem dX9_makeTable_142 : decode cX9_makeTable 142 = .ok (.aload_n 0, 1) := by decide +kernel
theorem dX9_makeTable_143 : decode cX9_makeTable 143 = .ok (.getfield 10, 3) := by decide +kernel
theorem dX9_makeTable_146 : decode cX9_makeTable 146 = .ok (.iload_n 2, 1) := by decide +kernel
theorem dX9_makeTable_147 : decode cX9_makeTable 147 = .ok (.bipush 13, 2) := by decide +kernel
theorem dX9_makeTable_149 : decode cX9_makeTable 149 = .ok (.iadd, 1) := by decide +kernel
theorem dX9_makeTable_150 : decode cX9_makeTable 150 = .ok (.iload_n 3, 1) := by decide +kernel
theorem dX9_makeTable_151 : decode cX9_makeTable 151 = .ok (.invokestatic 91, 3) := by decide +kernel
theorem dX9_makeTable_154 : decode cX9_makeTable 154 = .ok (.aload_n 0, 1) := by decide +kernel
theorem dX9_makeTable_155 : decode cX9_makeTable 155 = .ok (.getfield 10, 3) := by decide +kernel
theorem dX9_makeTable_158 : decode cX9_makeTable 158 = .ok (.iload_n 2, 1) := by decide +kernel
theorem dX9_makeTable_159 : decode cX9_makeTable 159 = .ok (.bipush 15, 2) := by decide +kernel
theorem dX9_makeTable_161 : decode cX9_makeTable 161 = .ok (.iadd, 1) := by decide +kernel
theorem dX9_makeTable_162 : decode cX9_makeTable 162 = .ok (.ldc 114, 2) := by decide +kernel
theorem dX9_makeTable_164 : decode cX9_makeTable 164 = .ok (.invokestatic 91, 3) := by decide +kernel
theorem dX9_makeTable_167 : decode cX9_makeTable 167 = .ok (.aload_n 0, 1) := by decide +kernel
theorem dX9_makeTable_168 : decode cX9_makeTable 168 = .ok (.getfield 10, 3) := by decide +kernel
theorem dX9_makeTable_171 : decode cX9_makeTable 171 = .ok (.iload_n 2, 1) := by decide +kernel
theorem dX9_makeTable_172 : decode cX9_makeTable 172 = .ok (.bipush 17, 2) := by decide +kernel
theorem dX9_makeTable_174 : decode cX9_makeTable 174 = .ok (.iadd, 1) := by decide +kernel
theorem dX9_makeTable_175 : decode cX9_makeTable 175 = .ok (.aload_n 0, 1) := by decide +kernel
theorem dX9_makeTable_176 : decode cX9_makeTable 176 = .ok (.getfield 10, 3) := by decide +kernel
theorem dX9_makeTable_179 : decode cX9_makeTable 179 = .ok (.iload_n 2, 1) := by decide +kernel
theorem dX9_makeTable_180 : decode cX9_makeTable 180 = .ok (.iload_n 2, 1) := by decide +kernel
theorem dX9_makeTable_181 : decode cX9_makeTable 181 = .ok (.bipush 17, 2) := by decide +kernel
theorem dX9_makeTable_183 : decode cX9_makeTable 183 = .ok (.iadd, 1) := by decide +kernel
theorem dX9_makeTable_184 : decode cX9_makeTable 184 = .ok (.invokestatic 106, 3) := by decide +kernel
theorem dX9_makeTable_187 : decode cX9_makeTable 187 = .ok (.invokestatic 110, 3) := by decide +kernel
theorem dX9_makeTable_190 : decode cX9_makeTable 190 = .ok (.return_, 1) := by decide +kernel
theorem dX9_makeNext_0 : decode cX9_makeNext 0 = .ok (.iconst (-1), 1) := by decide +kernel
theorem dX9_makeNext_1 : decode cX9_makeNext 1 = .ok (.istore_n 2, 1) := by decide +kernel
theorem dX9_makeNext_2 : decode cX9_makeNext 2 = .ok (.sipush 3000, 3) := by decide +kernel
theorem dX9_makeNext_5 : decode cX9_makeNext 5 = .ok (.istore_n 3, 1) := by decide +kernel
theorem dX9_makeNext_6 : decode cX9_makeNext 6 = .ok (.iconst 0, 1) := by decide +kernel
theorem dX9_makeNext_7 : decode cX9_makeNext 7 = .ok (.istore 4, 2) := by decide +kernel
theorem dX9_makeNext_9 : decode cX9_makeNext 9 = .ok (.iload 4, 2) := by decide +kernel
theorem dX9_makeNext_11 : decode cX9_makeNext 11 = .ok (.iconst 3, 1) := by decide +kernel
theorem dX9_makeNext_12 : decode cX9_makeNext 12 = .ok (.if_icmp .ge 59, 3) := by decide +kernel
theorem dX9_makeNext_15 : decode cX9_makeNext 15 = .ok (.aload_n 0, 1) := by decide +kernel
theorem dX9_makeNext_16 : decode cX9_makeNext 16 = .ok (.getfield 31, 3) := by decide +kernel
theorem dX9_makeNext_19 : decode cX9_makeNext 19 = .ok (.iload 4, 2) := by decide +kernel
theorem dX9_makeNext_21 : decode cX9_makeNext 21 = .ok (.aaload, 1) := by decide +kernel
theorem dX9_makeNext_22 : decode cX9_makeNext 22 = .ok (.iload_n 1, 1) := by decide +kernel
theorem dX9_makeNext_23 : decode cX9_makeNext 23 = .ok (.invokevirtual 115, 3) := by decide +kernel
theorem dX9_makeNext_26 : decode cX9_makeNext 26 = .ok (.istore 5, 2) := by decide +kernel
theorem dX9_makeNext_28 : decode cX9_makeNext 28 = .ok (.iload 5, 2) := by decide +kernel
theorem dX9_makeNext_30 : decode cX9_makeNext 30 = .ok (.iconst (-1), 1) := by decide +kernel
theorem dX9_makeNext_31 : decode cX9_makeNext 31 = .ok (.if_icmp .eq 34, 3) := by decide +kernel
theorem dX9_makeNext_34 : decode cX9_makeNext 34 = .ok (.iload 5, 2) := by decide +kernel
theorem dX9_makeNext_36 : decode cX9_makeNext 36 = .ok (.iload_n 3, 1) := by decide +kernel
theorem dX9_makeNext_37 : decode cX9_makeNext 37 = .ok (.if_icmp .ge 28, 3) := by decide +kernel
theorem dX9_makeNext_40 : decode cX9_makeNext 40 = .ok (.aload_n 0, 1) := by decide +kernel
theorem dX9_makeNext_41 : decode cX9_makeNext 41 = .ok (.getfield 31, 3) := by decide +kernel
theorem dX9_makeNext_44 : decode cX9_makeNext 44 = .ok (.iload 4, 2) := by decide +kernel
theorem dX9_makeNext_46 : decode cX9_makeNext 46 = .ok (.aaload, 1) := by decide +kernel
theorem dX9_makeNext_47 : decode cX9_makeNext 47 = .ok (.iload 5, 2) := by decide +kernel
theorem dX9_makeNext_49 : decode cX9_makeNext 49 = .ok (.iconst 0, 1) := by decide +kernel
theorem dX9_makeNext_50 : decode cX9_makeNext 50 = .ok (.invokevirtual 118, 3) := by decide +kernel
theorem dX9_makeNext_53 : decode cX9_makeNext 53 = .ok (.ifCond .ne 6, 3) := by decide +kernel
theorem dX9_makeNext_56 : decode cX9_makeNext 56 = .ok (.goto 9, 3) := by decide +kernel
theorem dX9_makeNext_59 : decode cX9_makeNext 59 = .ok (.iload 4, 2) := by decide +kernel
theorem dX9_makeNext_61 : decode cX9_makeNext 61 = .ok (.istore_n 2, 1) := by decide +kernel
theorem dX9_makeNext_62 : decode cX9_makeNext 62 = .ok (.iload 5, 2) := by decide +kernel
theorem dX9_makeNext_64 : decode cX9_makeNext 64 = .ok (.istore_n 3, 1) := by decide +kernel
theorem dX9_makeNext_65 : decode cX9_makeNext 65 = .ok (.iinc 4 1, 3) := by decide +kernel
theorem dX9_makeNext_68 : decode cX9_makeNext 68 = .ok (.goto (-59), 3) := by decide +kernel
theorem dX9_makeNext_71 : decode cX9_makeNext 71 = .ok (.iload_n 2, 1) := by decide +kernel
theorem dX9_makeNext_72 : decode cX9_makeNext 72 = .ok (.iconst (-1), 1) := by decide +kernel
theorem dX9_makeNext_73 : decode cX9_makeNext 73 = .ok (.if_icmp .ne 17, 3) := by decide +kernel
theorem dX9_makeNext_76 : decode cX9_makeNext 76 = .ok (.aload_n 0, 1) := by decide +kernel
theorem dX9_makeNext_77 : decode cX9_makeNext 77 = .ok (.sipush 8191, 3) := by decide +kernel
theorem dX9_makeNext_80 : decode cX9_makeNext 80 = .ok (.iconst 0, 1) := by decide +kernel
theorem dX9_makeNext_81 : decode cX9_makeNext 81 = .ok (.bipush 16, 2) := by decide +kernel
theorem dX9_makeNext_83 : decode cX9_makeNext 83 = .ok (.iconst 0, 1) := by decide +kernel
theorem dX9_makeNext_84 : decode cX9_makeNext 84 = .ok (.invokevirtual 101, 3) := by decide +kernel
theorem dX9_makeNext_87 : decode cX9_makeNext 87 = .ok (.goto 10, 3) := by decide +kernel
theorem dX9_makeNext_90 : decode cX9_makeNext 90 = .ok (.aload_n 0, 1) := by decide +kernel
theorem dX9_makeNext_91 : decode cX9_makeNext 91 = .ok (.iload_n 2, 1) := by decide +kernel
theorem dX9_makeNext_92 : decode cX9_makeNext 92 = .ok (.iload_n 1, 1) := by decide +kernel
theorem dX9_makeNext_93 : decode cX9_makeNext 93 = .ok (.iconst 0, 1) := by decide +kernel
theorem dX9_makeNext_94 : decode cX9_makeNext 94 = .ok (.invokevirtual 80, 3) := by decide +kernel
theorem dX9_makeNext_97 : decode cX9_makeNext 97 = .ok (.return_, 1) := by decide +kernel
theorem dX9_makeOfChannel_0 : decode cX9_makeOfChannel 0 = .ok (.aload_n 0, 1) := by decide +kernel
theorem dX9_makeOfChannel_1 : decode cX9_makeOfChannel 1 = .ok (.getfield 31, 3) := by decide +kernel
theorem dX9_makeOfChannel_4 : decode cX9_makeOfChannel 4 = .ok (.iload_n 1, 1) := by decide +kernel
theorem dX9_makeOfChannel_5 : decode cX9_makeOfChannel 5 = .ok (.aaload, 1) := by decide +kernel
theorem dX9_makeOfChannel_6 : decode cX9_makeOfChannel 6 = .ok (.astore 4, 2) := by decide +kernel
theorem dX9_makeOfChannel_8 : decode cX9_makeOfChannel 8 = .ok (.aload 4, 2) := by decide +kernel
theorem dX9_makeOfChannel_10 : decode cX9_makeOfChannel 10 = .ok (.iload_n 2, 1) := by decide +kernel
theorem dX9_makeOfChannel_11 : decode cX9_makeOfChannel 11 = .ok (.invokevirtual 115, 3) := by decide +kernel
theorem dX9_makeOfChannel_14 : decode cX9_makeOfChannel 14 = .ok (.istore 5, 2) := by decide +kernel
theorem dX9_makeOfChannel_16 : decode cX9_makeOfChannel 16 = .ok (.iload 5, 2) := by decide +kernel
theorem dX9_makeOfChannel_18 : decode cX9_makeOfChannel 18 = .ok (.iconst (-1), 1) := by decide +kernel
theorem dX9_makeOfChannel_19 : decode cX9_makeOfChannel 19 = .ok (.if_icmp .ne 7, 3) := by decide +kernel
theorem dX9_makeOfChannel_22 : decode cX9_makeOfChannel 22 = .ok (.iconst 0, 1) := by decide +kernel
theorem dX9_makeOfChannel_23 : decode cX9_makeOfChannel 23 = .ok (.goto 11, 3) := by decide +kernel
theorem dX9_makeOfChannel_26 : decode cX9_makeOfChannel 26 = .ok (.aload 4, 2) := by decide +kernel
theorem dX9_makeOfChannel_28 : decode cX9_makeOfChannel 28 = .ok (.iload 5, 2) := by decide +kernel
theorem dX9_makeOfChannel_30 : decode cX9_makeOfChannel 30 = .ok (.iload_n 3, 1) := by decide +kernel
theorem dX9_makeOfChannel_31 : decode cX9_makeOfChannel 31 = .ok (.invokevirtual 118, 3) := by decide +kernel
theorem dX9_makeOfChannel_34 : decode cX9_makeOfChannel 34 = .ok (.istore 6, 2) := by decide +kernel
theorem dX9_makeOfChannel_36 : decode cX9_makeOfChannel 36 = .ok (.iload 6, 2) := by decide +kernel
theorem dX9_makeOfChannel_38 : decode cX9_makeOfChannel 38 = .ok (.ifCond .le 17, 3) := by decide +kernel
theorem dX9_makeOfChannel_41 : decode cX9_makeOfChannel 41 = .ok (.aload 4, 2) := by decide +kernel
theorem dX9_makeOfChannel_43 : decode cX9_makeOfChannel 43 = .ok (.iload 5, 2) := by decide +kernel
theorem dX9_makeOfChannel_45 : decode cX9_makeOfChannel 45 = .ok (.invokevirtual 121, 3) := by decide +kernel
theorem dX9_makeOfChannel_48 : decode cX9_makeOfChannel 48 = .ok (.ifCond .ne 7, 3) := by decide +kernel
theorem dX9_makeOfChannel_51 : decode cX9_makeOfChannel 51 = .ok (.iconst 1, 1) := by decide +kernel
theorem dX9_makeOfChannel_52 : decode cX9_makeOfChannel 52 = .ok (.goto 4, 3) := by decide +kernel
theorem dX9_makeOfChannel_55 : decode cX9_makeOfChannel 55 = .ok (.iconst 0, 1) := by decide +kernel
theorem dX9_makeOfChannel_56 : decode cX9_makeOfChannel 56 = .ok (.istore 7, 2) := by decide +kernel
theorem dX9_makeOfChannel_58 : decode cX9_makeOfChannel 58 = .ok (.sipush 184, 3) := by decide +kernel
theorem dX9_makeOfChannel_61 : decode cX9_makeOfChannel 61 = .ok (.iload 6, 2) := by decide +kernel
theorem dX9_makeOfChannel_63 : decode cX9_makeOfChannel 63 = .ok (.isub, 1) := by decide +kernel
theorem dX9_makeOfChannel_64 : decode cX9_makeOfChannel 64 = .ok (.istore 8, 2) := by decide +kernel
theorem dX9_makeOfChannel_66 : decode cX9_makeOfChannel 66 = .ok (.iload 6, 2) := by decide +kernel
theorem dX9_makeOfChannel_68 : decode cX9_makeOfChannel 68 = .ok (.ifCond .le 8, 3) := by decide +kernel
theorem dX9_makeOfChannel_71 : decode cX9_makeOfChannel 71 = .ok (.bipush 16, 2) := by decide +kernel
theorem dX9_makeOfChannel_73 : decode cX9_makeOfChannel 73 = .ok (.goto 4, 3) := by decide +kernel
theorem dX9_makeOfChannel_76 : decode cX9_makeOfChannel 76 = .ok (.iconst 0, 1) := by decide +kernel
theorem dX9_makeOfChannel_77 : decode cX9_makeOfChannel 77 = .ok (.iload 8, 2) := by decide +kernel
theorem dX9_makeOfChannel_79 : decode cX9_makeOfChannel 79 = .ok (.ifCond .le 8, 3) := by decide +kernel
theorem dX9_makeOfChannel_82 : decode cX9_makeOfChannel 82 = .ok (.bipush 32, 2) := by decide +kernel
theorem dX9_makeOfChannel_84 : decode cX9_makeOfChannel 84 = .ok (.goto 4, 3) := by decide +kernel
theorem dX9_makeOfChannel_87 : decode cX9_makeOfChannel 87 = .ok (.iconst 0, 1) := by decide +kernel
theorem dX9_makeOfChannel_88 : decode cX9_makeOfChannel 88 = .ok (.ior, 1) := by decide +kernel
theorem dX9_makeOfChannel_89 : decode cX9_makeOfChannel 89 = .ok (.istore 9, 2) := by decide +kernel
theorem dX9_makeOfChannel_91 : decode cX9_makeOfChannel 91 = .ok (.aload_n 0, 1) := by decide +kernel
theorem dX9_makeOfChannel_92 : decode cX9_makeOfChannel 92 = .ok (.sipush 257, 3) := by decide +kernel
theorem dX9_makeOfChannel_95 : decode cX9_makeOfChannel 95 = .ok (.bipush 16, 2) := by decide +kernel
theorem dX9_makeOfChannel_97 : decode cX9_makeOfChannel 97 = .ok (.iload_n 1, 1) := by decide +kernel
theorem dX9_makeOfChannel_98 : decode cX9_makeOfChannel 98 = .ok (.imul, 1) := by decide +kernel
theorem dX9_makeOfChannel_99 : decode cX9_makeOfChannel 99 = .ok (.iadd, 1) := by decide +kernel
theorem dX9_makeOfChannel_100 : decode cX9_makeOfChannel 100 = .ok (.iload 7, 2) := by decide +kernel
theorem dX9_makeOfChannel_102 : decode cX9_makeOfChannel 102 = .ok (.iload 9, 2) := by decide +kernel
theorem dX9_makeOfChannel_104 : decode cX9_makeOfChannel 104 = .ok (.aload_n 0, 1) := by decide +kernel
theorem dX9_makeOfChannel_105 : decode cX9_makeOfChannel 105 = .ok (.iconst 4, 1) := by decide +kernel
theorem dX9_makeOfChannel_106 : decode cX9_makeOfChannel 106 = .ok (.iload_n 1, 1) := by decide +kernel
theorem dX9_makeOfChannel_107 : decode cX9_makeOfChannel 107 = .ok (.iadd, 1) := by decide +kernel
theorem dX9_makeOfChannel_108 : decode cX9_makeOfChannel 108 = .ok (.iload 6, 2) := by decide +kernel
theorem dX9_makeOfChannel_110 : decode cX9_makeOfChannel 110 = .ok (.ifCond .le 7, 3) := by decide +kernel
theorem dX9_makeOfChannel_113 : decode cX9_makeOfChannel 113 = .ok (.iconst 1, 1) := by decide +kernel
theorem dX9_makeOfChannel_114 : decode cX9_makeOfChannel 114 = .ok (.goto 4, 3) := by decide +kernel
theorem dX9_makeOfChannel_117 : decode cX9_makeOfChannel 117 = .ok (.iconst 0, 1) := by decide +kernel
theorem dX9_makeOfChannel_118 : decode cX9_makeOfChannel 118 = .ok (.invokevirtual 97, 3) := by decide +kernel
theorem dX9_makeOfChannel_121 : decode cX9_makeOfChannel 121 = .ok (.invokevirtual 101, 3) := by decide +kernel
theorem dX9_makeOfChannel_124 : decode cX9_makeOfChannel 124 = .ok (.aload_n 0, 1) := by decide +kernel
theorem dX9_makeOfChannel_125 : decode cX9_makeOfChannel 125 = .ok (.iload 8, 2) := by decide +kernel
theorem dX9_makeOfChannel_127 : decode cX9_makeOfChannel 127 = .ok (.iload 7, 2) := by decide +kernel
theorem dX9_makeOfChannel_129 : decode cX9_makeOfChannel 129 = .ok (.ifCond .eq 18, 3) := by decide +kernel
theorem dX9_makeOfChannel_132 : decode cX9_makeOfChannel 132 = .ok (.aload 4, 2) := by decide +kernel
theorem dX9_makeOfChannel_134 : decode cX9_makeOfChannel 134 = .ok (.iload 5, 2) := by decide +kernel
theorem dX9_makeOfChannel_136 : decode cX9_makeOfChannel 136 = .ok (.invokevirtual 124, 3) := by decide +kernel
theorem dX9_makeOfChannel_139 : decode cX9_makeOfChannel 139 = .ok (.ifCond .eq 8, 3) := by decide +kernel
theorem dX9_makeOfChannel_142 : decode cX9_makeOfChannel 142 = .ok (.bipush 64, 2) := by decide +kernel
theorem dX9_makeOfChannel_144 : decode cX9_makeOfChannel 144 = .ok (.goto 4, 3) := by decide +kernel
theorem dX9_makeOfChannel_147 : decode cX9_makeOfChannel 147 = .ok (.iconst 0, 1) := by decide +kernel
theorem dX9_makeOfChannel_148 : decode cX9_makeOfChannel 148 = .ok (.iload_n 3, 1) := by decide +kernel
theorem dX9_makeOfChannel_149 : decode cX9_makeOfChannel 149 = .ok (.ifCond .eq 8, 3) := by decide +kernel
theorem dX9_makeOfChannel_152 : decode cX9_makeOfChannel 152 = .ok (.bipush 16, 2) := by decide +kernel
theorem dX9_makeOfChannel_154 : decode cX9_makeOfChannel 154 = .ok (.goto 4, 3) := by decide +kernel
theorem dX9_makeOfChannel_157 : decode cX9_makeOfChannel 157 = .ok (.iconst 0, 1) := by decide +kernel
theorem dX9_makeOfChannel_158 : decode cX9_makeOfChannel 158 = .ok (.ior, 1) := by decide +kernel
theorem dX9_makeOfChannel_159 : decode cX9_makeOfChannel 159 = .ok (.invokevirtual 127, 3) := by decide +kernel
theorem dX9_makeOfChannel_162 : decode cX9_makeOfChannel 162 = .ok (.iload 6, 2) := by decide +kernel
theorem dX9_makeOfChannel_164 : decode cX9_makeOfChannel 164 = .ok (.ifCond .le 29, 3) := by decide +kernel
theorem dX9_makeOfChannel_167 : decode cX9_makeOfChannel 167 = .ok (.aload 4, 2) := by decide +kernel
theorem dX9_makeOfChannel_169 : decode cX9_makeOfChannel 169 = .ok (.iload 5, 2) := by decide +kernel
theorem dX9_makeOfChannel_171 : decode cX9_makeOfChannel 171 = .ok (.iload 6, 2) := by decide +kernel
theorem dX9_makeOfChannel_173 : decode cX9_makeOfChannel 173 = .ok (.aload_n 0, 1) := by decide +kernel
theorem dX9_makeOfChannel_174 : decode cX9_makeOfChannel 174 = .ok (.getfield 10, 3) := by decide +kernel
theorem dX9_makeOfChannel_177 : decode cX9_makeOfChannel 177 = .ok (.aload_n 0, 1) := by decide +kernel
theorem dX9_makeOfChannel_178 : decode cX9_makeOfChannel 178 = .ok (.getfield 56, 3) := by decide +kernel
theorem dX9_makeOfChannel_181 : decode cX9_makeOfChannel 181 = .ok (.iconst 4, 1) := by decide +kernel
theorem dX9_makeOfChannel_182 : decode cX9_makeOfChannel 182 = .ok (.iadd, 1) := by decide +kernel
theorem dX9_makeOfChannel_183 : decode cX9_makeOfChannel 183 = .ok (.iload 8, 2) := by decide +kernel
theorem dX9_makeOfChannel_185 : decode cX9_makeOfChannel 185 = .ok (.iadd, 1) := by decide +kernel
theorem dX9_makeOfChannel_186 : decode cX9_makeOfChannel 186 = .ok (.aload_n 0, 1) := by decide +kernel
theorem dX9_makeOfChannel_187 : decode cX9_makeOfChannel 187 = .ok (.getfield 53, 3) := by decide +kernel
theorem dX9_makeOfChannel_190 : decode cX9_makeOfChannel 190 = .ok (.invokevirtual 131, 3) := by decide +kernel
theorem dX9_makeOfChannel_193 : decode cX9_makeOfChannel 193 = .ok (.return_, 1) := by decide +kernel
theorem dX9_putField_0 : decode cX9_putField 0 = .ok (.iload_n 1, 1) := by decide +kernel
theorem dX9_putField_1 : decode cX9_putField 1 = .ok (.ifCond .le 18, 3) := by decide +kernel
theorem dX9_putField_4 : decode cX9_putField 4 = .ok (.aload_n 0, 1) := by decide +kernel
theorem dX9_putField_5 : decode cX9_putField 5 = .ok (.getfield 10, 3) := by decide +kernel
theorem dX9_putField_8 : decode cX9_putField 8 = .ok (.aload_n 0, 1) := by decide +kernel
theorem dX9_putField_9 : decode cX9_putField 9 = .ok (.getfield 56, 3) := by decide +kernel
theorem dX9_putField_12 : decode cX9_putField 12 = .ok (.iconst 4, 1) := by decide +kernel
theorem dX9_putField_13 : decode cX9_putField 13 = .ok (.iadd, 1) := by decide +kernel
theorem dX9_putField_14 : decode cX9_putField 14 = .ok (.iload_n 1, 1) := by decide +kernel
theorem dX9_putField_15 : decode cX9_putField 15 = .ok (.iconst 1, 1) := by decide +kernel
theorem dX9_putField_16 : decode cX9_putField 16 = .ok (.isub, 1) := by decide +kernel
theorem dX9_putField_17 : decode cX9_putField 17 = .ok (.i2b, 1) := by decide +kernel
theorem dX9_putField_18 : decode cX9_putField 18 = .ok (.bastore, 1) := by decide +kernel
theorem dX9_putField_19 : decode cX9_putField 19 = .ok (.iload_n 1, 1) := by decide +kernel
theorem dX9_putField_20 : decode cX9_putField 20 = .ok (.iconst 1, 1) := by decide +kernel
theorem dX9_putField_21 : decode cX9_putField 21 = .ok (.if_icmp .le 16, 3) := by decide +kernel
theorem dX9_putField_24 : decode cX9_putField 24 = .ok (.aload_n 0, 1) := by decide +kernel
theorem dX9_putField_25 : decode cX9_putField 25 = .ok (.getfield 10, 3) := by decide +kernel
theorem dX9_putField_28 : decode cX9_putField 28 = .ok (.aload_n 0, 1) := by decide +kernel
theorem dX9_putField_29 : decode cX9_putField 29 = .ok (.getfield 56, 3) := by decide +kernel
theorem dX9_putField_32 : decode cX9_putField 32 = .ok (.iconst 5, 1) := by decide +kernel
theorem dX9_putField_33 : decode cX9_putField 33 = .ok (.iadd, 1) := by decide +kernel
theorem dX9_putField_34 : decode cX9_putField 34 = .ok (.iload_n 2, 1) := by decide +kernel
theorem dX9_putField_35 : decode cX9_putField 35 = .ok (.i2b, 1) := by decide +kernel
theorem dX9_putField_36 : decode cX9_putField 36 = .ok (.bastore, 1) := by decide +kernel
theorem dX9_putField_37 : decode cX9_putField 37 = .ok (.iload_n 2, 1) := by decide +kernel
theorem dX9_putField_38 : decode cX9_putField 38 = .ok (.bipush 16, 2) := by decide +kernel
theorem dX9_putField_40 : decode cX9_putField 40 = .ok (.iand, 1) := by decide +kernel
theorem dX9_putField_41 : decode cX9_putField 41 = .ok (.ifCond .ne 4, 3) := by decide +kernel
theorem dX9_putField_44 : decode cX9_putField 44 = .ok (.return_, 1) := by decide +kernel
theorem dX9_putField_45 : decode cX9_putField 45 = .ok (.aload_n 0, 1) := by decide +kernel
theorem dX9_putField_46 : decode cX9_putField 46 = .ok (.getfield 53, 3) := by decide +kernel
theorem dX9_putField_49 : decode cX9_putField 49 = .ok (.aload_n 0, 1) := by decide +kernel
theorem dX9_putField_50 : decode cX9_putField 50 = .ok (.getfield 23, 3) := by decide +kernel
theorem dX9_putField_53 : decode cX9_putField 53 = .ok (.aload_n 0, 1) := by decide +kernel
theorem dX9_putField_54 : decode cX9_putField 54 = .ok (.getfield 27, 3) := by decide +kernel
theorem dX9_putField_57 : decode cX9_putField 57 = .ok (.invokestatic 135, 3) := by decide +kernel
theorem dX9_putField_60 : decode cX9_putField 60 = .ok (.lstore_n 3, 1) := by decide +kernel
theorem dX9_putField_61 : decode cX9_putField 61 = .ok (.aload_n 0, 1) := by decide +kernel
theorem dX9_putField_62 : decode cX9_putField 62 = .ok (.getfield 10, 3) := by decide +kernel
theorem dX9_putField_65 : decode cX9_putField 65 = .ok (.aload_n 0, 1) := by decide +kernel
theorem dX9_putField_66 : decode cX9_putField 66 = .ok (.getfield 56, 3) := by decide +kernel
theorem dX9_putField_69 : decode cX9_putField 69 = .ok (.bipush 6, 2) := by decide +kernel
theorem dX9_putField_71 : decode cX9_putField 71 = .ok (.iadd, 1) := by decide +kernel
theorem dX9_putField_72 : decode cX9_putField 72 = .ok (.lload_n 3, 1) := by decide +kernel
theorem dX9_putField_73 : decode cX9_putField 73 = .ok (.bipush 32, 2) := by decide +kernel
theorem dX9_putField_75 : decode cX9_putField 75 = .ok (.lshr, 1) := by decide +kernel
theorem dX9_putField_76 : decode cX9_putField 76 = .ok (.l2i, 1) := by decide +kernel
theorem dX9_putField_77 : decode cX9_putField 77 = .ok (.invokestatic 91, 3) := by decide +kernel
theorem dX9_putField_80 : decode cX9_putField 80 = .ok (.aload_n 0, 1) := by decide +kernel
theorem dX9_putField_81 : decode cX9_putField 81 = .ok (.getfield 10, 3) := by decide +kernel
theorem dX9_putField_84 : decode cX9_putField 84 = .ok (.aload_n 0, 1) := by decide +kernel
theorem dX9_putField_85 : decode cX9_putField 85 = .ok (.getfield 56, 3) := by decide +kernel
theorem dX9_putField_88 : decode cX9_putField 88 = .ok (.bipush 8, 2) := by decide +kernel
theorem dX9_putField_90 : decode cX9_putField 90 = .ok (.iadd, 1) := by decide +kernel
theorem dX9_putField_91 : decode cX9_putField 91 = .ok (.lload_n 3, 1) := by decide +kernel
theorem dX9_putField_92 : decode cX9_putField 92 = .ok (.l2i, 1) := by decide +kernel
theorem dX9_putField_93 : decode cX9_putField 93 = .ok (.invokestatic 110, 3) := by decide +kernel
theorem dX9_putField_96 : decode cX9_putField 96 = .ok (.return_, 1) := by decide +kernel
theorem dX10_init_0 : decode cX10_init 0 = .ok (.aload_n 0, 1) := by decide +kernel
theorem dX10_init_1 : decode cX10_init 1 = .ok (.invokespecial 5, 3) := by decide +kernel
theorem dX10_init_4 : decode cX10_init 4 = .ok (.aload_n 0, 1) := by decide +kernel
theorem dX10_init_5 : decode cX10_init 5 = .ok (.sipush 15000, 3) := by decide +kernel
theorem dX10_init_8 : decode cX10_init 8 = .ok (.newarray .int, 2) := by decide +kernel
theorem dX10_init_10 : decode cX10_init 10 = .ok (.putfield 11, 3) := by decide +kernel
theorem dX10_init_13 : decode cX10_init 13 = .ok (.aload_n 0, 1) := by decide +kernel
theorem dX10_init_14 : decode cX10_init 14 = .ok (.sipush 24112, 3) := by decide +kernel
theorem dX10_init_17 : decode cX10_init 17 = .ok (.newarray .byte, 2) := by decide +kernel
theorem dX10_init_19 : decode cX10_init 19 = .ok (.putfield 15, 3) := by decide +kernel
theorem dX10_init_22 : decode cX10_init 22 = .ok (.aload_n 0, 1) := by decide +kernel
theorem dX10_init_23 : decode cX10_init 23 = .ok (.bipush 8, 2) := by decide +kernel
theorem dX10_init_25 : decode cX10_init 25 = .ok (.newarray .int, 2) := by decide +kernel
theorem dX10_init_27 : decode cX10_init 27 = .ok (.putfield 19, 3) := by decide +kernel
theorem dX10_init_30 : decode cX10_init 30 = .ok (.aload_n 0, 1) := by decide +kernel
theorem dX10_init_31 : decode cX10_init 31 = .ok (.bipush 100, 2) := by decide +kernel
theorem dX10_init_33 : decode cX10_init 33 = .ok (.putfield 22, 3) := by decide +kernel
theorem dX10_init_36 : decode cX10_init 36 = .ok (.aload_n 0, 1) := by decide +kernel
theorem dX10_init_37 : decode cX10_init 37 = .ok (.sipush 1500, 3) := by decide +kernel
theorem dX10_init_40 : decode cX10_init 40 = .ok (.putfield 26, 3) := by decide +kernel
theorem dX10_init_43 : decode cX10_init 43 = .ok (.aload_n 0, 1) := by decide +kernel
theorem dX10_init_44 : decode cX10_init 44 = .ok (.bipush 10, 2) := by decide +kernel
theorem dX10_init_46 : decode cX10_init 46 = .ok (.putfield 29, 3) := by decide +kernel
theorem dX10_init_49 : decode cX10_init 49 = .ok (.aload_n 0, 1) := by decide +kernel
theorem dX10_init_50 : decode cX10_init 50 = .ok (.sipush 8000, 3) := by decide +kernel
theorem dX10_init_53 : decode cX10_init 53 = .ok (.putfield 32, 3) := by decide +kernel
theorem dX10_init_56 : decode cX10_init 56 = .ok (.aload_n 0, 1) := by decide +kernel
theorem dX10_init_57 : decode cX10_init 57 = .ok (.iconst 1, 1) := by decide +kernel
theorem dX10_init_58 : decode cX10_init 58 = .ok (.putfield 35, 3) := by decide +kernel
theorem dX10_init_61 : decode cX10_init 61 = .ok (.aload_n 0, 1) := by decide +kernel
theorem dX10_init_62 : decode cX10_init 62 = .ok (.iconst 1, 1) := by decide +kernel
theorem dX10_init_63 : decode cX10_init 63 = .ok (.putfield 39, 3) := by decide +kernel
theorem dX10_init_66 : decode cX10_init 66 = .ok (.aload_n 0, 1) := by decide +kernel
theorem dX10_init_67 : decode cX10_init 67 = .ok (.iload_n 1, 1) := by decide +kernel
theorem dX10_init_68 : decode cX10_init 68 = .ok (.putfield 42, 3) := by decide +kernel
theorem dX10_init_71 : decode cX10_init 71 = .ok (.aload_n 0, 1) := by decide +kernel
theorem dX10_init_72 : decode cX10_init 72 = .ok (.lload_n 2, 1) := by decide +kernel
theorem dX10_init_73 : decode cX10_init 73 = .ok (.putfield 45, 3) := by decide +kernel
theorem dX10_init_76 : decode cX10_init 76 = .ok (.return_, 1) := by decide +kernel
theorem dX10_changeService_0 : decode cX10_changeService 0 = .ok (.aload_n 0, 1) := by decide +kernel
theorem dX10_changeService_1 : decode cX10_changeService 1 = .ok (.getfield 35, 3) := by decide +kernel
theorem dX10_changeService_4 : decode cX10_changeService 4 = .ok (.aload_n 0, 1) := by decide +kernel
theorem dX10_changeService_5 : decode cX10_changeService 5 = .ok (.getfield 39, 3) := by decide +kernel
theorem dX10_changeService_8 : decode cX10_changeService 8 = .ok (.if_icmp .ne 5, 3) := by decide +kernel
theorem dX10_changeService_11 : decode cX10_changeService 11 = .ok (.iconst 0, 1) := by decide +kernel
theorem dX10_changeService_12 : decode cX10_changeService 12 = .ok (.ireturn, 1) := by decide +kernel
theorem dX10_changeService_13 : decode cX10_changeService 13 = .ok (.aload_n 0, 1) := by decide +kernel
theorem dX10_changeService_14 : decode cX10_changeService 14 = .ok (.aload_n 0, 1) := by decide +kernel
theorem dX10_changeService_15 : decode cX10_changeService 15 = .ok (.getfield 35, 3) := by decide +kernel
theorem dX10_changeService_18 : decode cX10_changeService 18 = .ok (.putfield 39, 3) := by decide +kernel
theorem dX10_changeService_21 : decode cX10_changeService 21 = .ok (.aload_n 0, 1) := by decide +kernel
theorem dX10_changeService_22 : decode cX10_changeService 22 = .ok (.getfield 39, 3) := by decide +kernel
theorem dX10_changeService_25 : decode cX10_changeService 25 = .ok (.ifCond .ne 8, 3) := by decide +kernel
theorem dX10_changeService_28 : decode cX10_changeService 28 = .ok (.aload_n 0, 1) := by decide +kernel
theorem dX10_changeService_29 : decode cX10_changeService 29 = .ok (.iload_n 1, 1) := by decide +kernel
theorem dX10_changeService_30 : decode cX10_changeService 30 = .ok (.invokevirtual 49, 3) := by decide +kernel
theorem dX10_changeService_33 : decode cX10_changeService 33 = .ok (.iconst 1, 1) := by decide +kernel
theorem dX10_changeService_34 : decode cX10_changeService 34 = .ok (.ireturn, 1) := by decide +kernel
theorem dX10_leave_0 : decode cX10_leave 0 = .ok (.iconst 0, 1) := by decide +kernel
theorem dX10_leave_1 : decode cX10_leave 1 = .ok (.iload_n 1, 1) := by decide +kernel
theorem dX10_leave_2 : decode cX10_leave 2 = .ok (.bipush 8, 2) := by decide +kernel
theorem dX10_leave_4 : decode cX10_leave 4 = .ok (.isub, 1) := by decide +kernel
theorem dX10_leave_5 : decode cX10_leave 5 = .ok (.invokestatic 53, 3) := by decide +kernel
theorem dX10_leave_8 : decode cX10_leave 8 = .ok (.istore_n 2, 1) := by decide +kernel
theorem dX10_leave_9 : decode cX10_leave 9 = .ok (.iload_n 2, 1) := by decide +kernel
theorem dX10_leave_10 : decode cX10_leave 10 = .ok (.iload_n 1, 1) := by decide +kernel
theorem dX10_leave_11 : decode cX10_leave 11 = .ok (.if_icmp .ge 34, 3) := by decide +kernel
theorem dX10_leave_14 : decode cX10_leave 14 = .ok (.aload_n 0, 1) := by decide +kernel
theorem dX10_leave_15 : decode cX10_leave 15 = .ok (.getfield 11, 3) := by decide +kernel
theorem dX10_leave_18 : decode cX10_leave 18 = .ok (.iload_n 2, 1) := by decide +kernel
theorem dX10_leave_19 : decode cX10_leave 19 = .ok (.iconst 5, 1) := by decide +kernel
theorem dX10_leave_20 : decode cX10_leave 20 = .ok (.imul, 1) := by decide +kernel
theorem dX10_leave_21 : decode cX10_leave 21 = .ok (.iconst 0, 1) := by decide +kernel
theorem dX10_leave_22 : decode cX10_leave 22 = .ok (.iadd, 1) := by decide +kernel
theorem dX10_leave_23 : decode cX10_leave 23 = .ok (.iaload, 1) := by decide +kernel
theorem dX10_leave_24 : decode cX10_leave 24 = .ok (.iconst 1, 1) := by decide +kernel
theorem dX10_leave_25 : decode cX10_leave 25 = .ok (.if_icmp .ne 14, 3) := by decide +kernel
theorem dX10_leave_28 : decode cX10_leave 28 = .ok (.aload_n 0, 1) := by decide +kernel
theorem dX10_leave_29 : decode cX10_leave 29 = .ok (.getfield 11, 3) := by decide +kernel
theorem dX10_leave_32 : decode cX10_leave 32 = .ok (.iload_n 2, 1) := by decide +kernel
theorem dX10_leave_33 : decode cX10_leave 33 = .ok (.iconst 5, 1) := by decide +kernel
theorem dX10_leave_34 : decode cX10_leave 34 = .ok (.imul, 1) := by decide +kernel
theorem dX10_leave_35 : decode cX10_leave 35 = .ok (.iconst 0, 1) := by decide +kernel
theorem dX10_leave_36 : decode cX10_leave 36 = .ok (.iadd, 1) := by decide +kernel
theorem dX10_leave_37 : decode cX10_leave 37 = .ok (.iconst 4, 1) := by decide +kernel
theorem dX10_leave_38 : decode cX10_leave 38 = .ok (.iastore, 1) := by decide +kernel
theorem dX10_leave_39 : decode cX10_leave 39 = .ok (.iinc 2 1, 3) := by decide +kernel
theorem dX10_leave_42 : decode cX10_leave 42 = .ok (.goto (-33), 3) := by decide +kernel
theorem dX10_leave_45 : decode cX10_leave 45 = .ok (.aload_n 0, 1) := by decide +kernel
theorem dX10_leave_46 : decode cX10_leave 46 = .ok (.getfield 19, 3) := by decide +kernel
theorem dX10_leave_49 : decode cX10_leave 49 = .ok (.iconst 0, 1) := by decide +kernel
theorem dX10_leave_50 : decode cX10_leave 50 = .ok (.invokestatic 59, 3) := by decide +kernel
theorem dX10_leave_53 : decode cX10_leave 53 = .ok (.aload_n 0, 1) := by decide +kernel
theorem dX10_leave_54 : decode cX10_leave 54 = .ok (.iconst 0, 1) := by decide +kernel
theorem dX10_leave_55 : decode cX10_leave 55 = .ok (.putfield 65, 3) := by decide +kernel
theorem dX10_leave_58 : decode cX10_leave 58 = .ok (.return_, 1) := by decide +kernel
theorem dX10_beginFrame_0 : decode cX10_beginFrame 0 = .ok (.aload_n 0, 1) := by decide +kernel
theorem dX10_beginFrame_1 : decode cX10_beginFrame 1 = .ok (.iload_n 1, 1) := by decide +kernel
theorem dX10_beginFrame_2 : decode cX10_beginFrame 2 = .ok (.invokevirtual 68, 3) := by decide +kernel
theorem dX10_beginFrame_5 : decode cX10_beginFrame 5 = .ok (.aload_n 0, 1) := by decide +kernel
theorem dX10_beginFrame_6 : decode cX10_beginFrame 6 = .ok (.getfield 11, 3) := by decide +kernel
theorem dX10_beginFrame_9 : decode cX10_beginFrame 9 = .ok (.iload_n 1, 1) := by decide +kernel
theorem dX10_beginFrame_10 : decode cX10_beginFrame 10 = .ok (.iconst 5, 1) := by decide +kernel
theorem dX10_beginFrame_11 : decode cX10_beginFrame 11 = .ok (.imul, 1) := by decide +kernel
theorem dX10_beginFrame_12 : decode cX10_beginFrame 12 = .ok (.iconst 4, 1) := by decide +kernel
theorem dX10_beginFrame_13 : decode cX10_beginFrame 13 = .ok (.iadd, 1) := by decide +kernel
theorem dX10_beginFrame_14 : decode cX10_beginFrame 14 = .ok (.iconst (-1), 1) := by decide +kernel
theorem dX10_beginFrame_15 : decode cX10_beginFrame 15 = .ok (.iastore, 1) := by decide +kernel
theorem dX10_beginFrame_16 : decode cX10_beginFrame 16 = .ok (.aload_n 0, 1) := by decide +kernel
theorem dX10_beginFrame_17 : decode cX10_beginFrame 17 = .ok (.getfield 39, 3) := by decide +kernel
theorem dX10_beginFrame_20 : decode cX10_beginFrame 20 = .ok (.ifCond .ne 4, 3) := by decide +kernel
theorem dX10_beginFrame_23 : decode cX10_beginFrame 23 = .ok (.return_, 1) := by decide +kernel
theorem dX10_beginFrame_24 : decode cX10_beginFrame 24 = .ok (.aload_n 0, 1) := by decide +kernel
theorem dX10_beginFrame_25 : decode cX10_beginFrame 25 = .ok (.aload_n 0, 1) := by decide +kernel
theorem dX10_beginFrame_26 : decode cX10_beginFrame 26 = .ok (.iload_n 1, 1) := by decide +kernel
theorem dX10_beginFrame_27 : decode cX10_beginFrame 27 = .ok (.aload_n 2, 1) := by decide +kernel
theorem dX10_beginFrame_28 : decode cX10_beginFrame 28 = .ok (.invokevirtual 71, 3) := by decide +kernel
theorem dX10_beginFrame_31 : decode cX10_beginFrame 31 = .ok (.putfield 75, 3) := by decide +kernel
theorem dX10_beginFrame_34 : decode cX10_beginFrame 34 = .ok (.aload_n 2, 1) := by decide +kernel
theorem dX10_beginFrame_35 : decode cX10_beginFrame 35 = .ok (.iload_n 1, 1) := by decide +kernel
theorem dX10_beginFrame_36 : decode cX10_beginFrame 36 = .ok (.invokevirtual 78, 3) := by decide +kernel
theorem dX10_beginFrame_39 : decode cX10_beginFrame 39 = .ok (.istore 4, 2) := by decide +kernel
theorem dX10_beginFrame_41 : decode cX10_beginFrame 41 = .ok (.aload_n 0, 1) := by decide +kernel
theorem dX10_beginFrame_42 : decode cX10_beginFrame 42 = .ok (.iload 4, 2) := by decide +kernel
theorem dX10_beginFrame_44 : decode cX10_beginFrame 44 = .ok (.iconst (-1), 1) := by decide +kernel
theorem dX10_beginFrame_45 : decode cX10_beginFrame 45 = .ok (.if_icmp .ne 7, 3) := by decide +kernel
theorem dX10_beginFrame_48 : decode cX10_beginFrame 48 = .ok (.iconst 1, 1) := by decide +kernel
theorem dX10_beginFrame_49 : decode cX10_beginFrame 49 = .ok (.goto 10, 3) := by decide +kernel
theorem dX10_beginFrame_52 : decode cX10_beginFrame 52 = .ok (.aload_n 3, 1) := by decide +kernel
theorem dX10_beginFrame_53 : decode cX10_beginFrame 53 = .ok (.getfield 84, 3) := by decide +kernel
theorem dX10_beginFrame_56 : decode cX10_beginFrame 56 = .ok (.iload 4, 2) := by decide +kernel
theorem dX10_beginFrame_58 : decode cX10_beginFrame 58 = .ok (.iaload, 1) := by decide +kernel
theorem dX10_beginFrame_59 : decode cX10_beginFrame 59 = .ok (.aload_n 0, 1) := by decide +kernel
theorem dX10_beginFrame_60 : decode cX10_beginFrame 60 = .ok (.getfield 75, 3) := by decide +kernel
theorem dX10_beginFrame_63 : decode cX10_beginFrame 63 = .ok (.ifCond .le 7, 3) := by decide +kernel
theorem dX10_beginFrame_66 : decode cX10_beginFrame 66 = .ok (.iconst 3, 1) := by decide +kernel
theorem dX10_beginFrame_67 : decode cX10_beginFrame 67 = .ok (.goto 4, 3) := by decide +kernel
theorem dX10_beginFrame_70 : decode cX10_beginFrame 70 = .ok (.iconst 1, 1) := by decide +kernel
theorem dX10_beginFrame_71 : decode cX10_beginFrame 71 = .ok (.imul, 1) := by decide +kernel
theorem dX10_beginFrame_72 : decode cX10_beginFrame 72 = .ok (.aload_n 0, 1) := by decide +kernel
theorem dX10_beginFrame_73 : decode cX10_beginFrame 73 = .ok (.getfield 29, 3) := by decide +kernel
theorem dX10_beginFrame_76 : decode cX10_beginFrame 76 = .ok (.imul, 1) := by decide +kernel
theorem dX10_beginFrame_77 : decode cX10_beginFrame 77 = .ok (.putfield 89, 3) := by decide +kernel
theorem dX10_beginFrame_80 : decode cX10_beginFrame 80 = .ok (.return_, 1) := by decide +kernel
theorem dX10_expire_0 : decode cX10_expire 0 = .ok (.iload_n 1, 1) := by decide +kernel
theorem dX10_expire_1 : decode cX10_expire 1 = .ok (.bipush 8, 2) := by decide +kernel
theorem dX10_expire_3 : decode cX10_expire 3 = .ok (.isub, 1) := by decide +kernel
theorem dX10_expire_4 : decode cX10_expire 4 = .ok (.iconst 5, 1) := by decide +kernel
theorem dX10_expire_5 : decode cX10_expire 5 = .ok (.imul, 1) := by decide +kernel
theorem dX10_expire_6 : decode cX10_expire 6 = .ok (.iconst 0, 1) := by decide +kernel
theorem dX10_expire_7 : decode cX10_expire 7 = .ok (.iadd, 1) := by decide +kernel
theorem dX10_expire_8 : decode cX10_expire 8 = .ok (.istore_n 2, 1) := by decide +kernel
theorem dX10_expire_9 : decode cX10_expire 9 = .ok (.iload_n 1, 1) := by decide +kernel
theorem dX10_expire_10 : decode cX10_expire 10 = .ok (.bipush 8, 2) := by decide +kernel
theorem dX10_expire_12 : decode cX10_expire 12 = .ok (.if_icmp .lt 20, 3) := by decide +kernel
theorem dX10_expire_15 : decode cX10_expire 15 = .ok (.aload_n 0, 1) := by decide +kernel
theorem dX10_expire_16 : decode cX10_expire 16 = .ok (.getfield 11, 3) := by decide +kernel
theorem dX10_expire_19 : decode cX10_expire 19 = .ok (.iload_n 2, 1) := by decide +kernel
theorem dX10_expire_20 : decode cX10_expire 20 = .ok (.iaload, 1) := by decide +kernel
theorem dX10_expire_21 : decode cX10_expire 21 = .ok (.iconst 1, 1) := by decide +kernel
theorem dX10_expire_22 : decode cX10_expire 22 = .ok (.if_icmp .ne 10, 3) := by decide +kernel
theorem dX10_expire_25 : decode cX10_expire 25 = .ok (.aload_n 0, 1) := by decide +kernel
theorem dX10_expire_26 : decode cX10_expire 26 = .ok (.getfield 11, 3) := by decide +kernel
theorem dX10_expire_29 : decode cX10_expire 29 = .ok (.iload_n 2, 1) := by decide +kernel
theorem dX10_expire_30 : decode cX10_expire 30 = .ok (.iconst 3, 1) := by decide +kernel
theorem dX10_expire_31 : decode cX10_expire 31 = .ok (.iastore, 1) := by decide +kernel
theorem dX10_expire_32 : decode cX10_expire 32 = .ok (.aload_n 0, 1) := by decide +kernel
theorem dX10_expire_33 : decode cX10_expire 33 = .ok (.dup, 1) := by decide +kernel
theorem dX10_expire_34 : decode cX10_expire 34 = .ok (.getfield 65, 3) := by decide +kernel
theorem dX10_expire_37 : decode cX10_expire 37 = .ok (.aload_n 0, 1) := by decide +kernel
theorem dX10_expire_38 : decode cX10_expire 38 = .ok (.getfield 19, 3) := by decide +kernel
theorem dX10_expire_41 : decode cX10_expire 41 = .ok (.iload_n 1, 1) := by decide +kernel
theorem dX10_expire_42 : decode cX10_expire 42 = .ok (.bipush 8, 2) := by decide +kernel
theorem dX10_expire_44 : decode cX10_expire 44 = .ok (.irem, 1) := by decide +kernel
theorem dX10_expire_45 : decode cX10_expire 45 = .ok (.iaload, 1) := by decide +kernel
theorem dX10_expire_46 : decode cX10_expire 46 = .ok (.isub, 1) := by decide +kernel
theorem dX10_expire_47 : decode cX10_expire 47 = .ok (.putfield 65, 3) := by decide +kernel
theorem dX10_expire_50 : decode cX10_expire 50 = .ok (.aload_n 0, 1) := by decide +kernel
theorem dX10_expire_51 : decode cX10_expire 51 = .ok (.getfield 19, 3) := by decide +kernel
theorem dX10_expire_54 : decode cX10_expire 54 = .ok (.iload_n 1, 1) := by decide +kernel
theorem dX10_expire_55 : decode cX10_expire 55 = .ok (.bipush 8, 2) := by decide +kernel
theorem dX10_expire_57 : decode cX10_expire 57 = .ok (.irem, 1) := by decide +kernel
theorem dX10_expire_58 : decode cX10_expire 58 = .ok (.iconst 0, 1) := by decide +kernel
theorem dX10_expire_59 : decode cX10_expire 59 = .ok (.iastore, 1) := by decide +kernel
theorem dX10_expire_60 : decode cX10_expire 60 = .ok (.return_, 1) := by decide +kernel
theorem dX10_keyOf_0 : decode cX10_keyOf 0 = .ok (.aload_n 2, 1) := by decide +kernel
theorem dX10_keyOf_1 : decode cX10_keyOf 1 = .ok (.iload_n 1, 1) := by decide +kernel
theorem dX10_keyOf_2 : decode cX10_keyOf 2 = .ok (.invokevirtual 92, 3) := by decide +kernel
theorem dX10_keyOf_5 : decode cX10_keyOf 5 = .ok (.istore_n 3, 1) := by decide +kernel
theorem dX10_keyOf_6 : decode cX10_keyOf 6 = .ok (.iload_n 3, 1) := by decide +kernel
theorem dX10_keyOf_7 : decode cX10_keyOf 7 = .ok (.ifCond .eq 7, 3) := by decide +kernel
theorem dX10_keyOf_10 : decode cX10_keyOf 10 = .ok (.iload_n 1, 1) := by decide +kernel
theorem dX10_keyOf_11 : decode cX10_keyOf 11 = .ok (.ifCond .ne 5, 3) := by decide +kernel
theorem dX10_keyOf_14 : decode cX10_keyOf 14 = .ok (.iconst 2, 1) := by decide +kernel
theorem dX10_keyOf_15 : decode cX10_keyOf 15 = .ok (.ireturn, 1) := by decide +kernel
theorem dX10_keyOf_16 : decode cX10_keyOf 16 = .ok (.iload_n 3, 1) := by decide +kernel
theorem dX10_keyOf_17 : decode cX10_keyOf 17 = .ok (.bipush 12, 2) := by decide +kernel
theorem dX10_keyOf_19 : decode cX10_keyOf 19 = .ok (.irem, 1) := by decide +kernel
theorem dX10_keyOf_20 : decode cX10_keyOf 20 = .ok (.ifCond .eq 18, 3) := by decide +kernel
theorem dX10_keyOf_23 : decode cX10_keyOf 23 = .ok (.aload_n 0, 1) := by decide +kernel
theorem dX10_keyOf_24 : decode cX10_keyOf 24 = .ok (.getfield 11, 3) := by decide +kernel
theorem dX10_keyOf_27 : decode cX10_keyOf 27 = .ok (.iload_n 1, 1) := by decide +kernel
theorem dX10_keyOf_28 : decode cX10_keyOf 28 = .ok (.iconst 1, 1) := by decide +kernel
theorem dX10_keyOf_29 : decode cX10_keyOf 29 = .ok (.isub, 1) := by decide +kernel
theorem dX10_keyOf_30 : decode cX10_keyOf 30 = .ok (.iconst 5, 1) := by decide +kernel
theorem dX10_keyOf_31 : decode cX10_keyOf 31 = .ok (.imul, 1) := by decide +kernel
theorem dX10_keyOf_32 : decode cX10_keyOf 32 = .ok (.iconst 0, 1) := by decide +kernel
theorem dX10_keyOf_33 : decode cX10_keyOf 33 = .ok (.iadd, 1) := by decide +kernel
theorem dX10_keyOf_34 : decode cX10_keyOf 34 = .ok (.iaload, 1) := by decide +kernel
theorem dX10_keyOf_35 : decode cX10_keyOf 35 = .ok (.ifCond .ne 7, 3) := by decide +kernel
theorem dX10_keyOf_38 : decode cX10_keyOf 38 = .ok (.iconst 1, 1) := by decide +kernel
theorem dX10_keyOf_39 : decode cX10_keyOf 39 = .ok (.goto 4, 3) := by decide +kernel
theorem dX10_keyOf_42 : decode cX10_keyOf 42 = .ok (.iconst 0, 1) := by decide +kernel
theorem dX10_keyOf_43 : decode cX10_keyOf 43 = .ok (.ireturn, 1) := by decide +kernel
theorem dX10_share_0 : decode cX10_share 0 = .ok (.aload_n 0, 1) := by decide +kernel
theorem dX10_share_1 : decode cX10_share 1 = .ok (.iload_n 1, 1) := by decide +kernel
theorem dX10_share_2 : decode cX10_share 2 = .ok (.invokestatic 95, 3) := by decide +kernel
theorem dX10_share_5 : decode cX10_share 5 = .ok (.istore_n 2, 1) := by decide +kernel
theorem dX10_share_6 : decode cX10_share 6 = .ok (.iconst 0, 1) := by decide +kernel
theorem dX10_share_7 : decode cX10_share 7 = .ok (.istore_n 3, 1) := by decide +kernel
theorem dX10_share_8 : decode cX10_share 8 = .ok (.iload_n 3, 1) := by decide +kernel
theorem dX10_share_9 : decode cX10_share 9 = .ok (.sipush 9000, 3) := by decide +kernel
theorem dX10_share_12 : decode cX10_share 12 = .ok (.if_icmp .ge 40, 3) := by decide +kernel
theorem dX10_share_15 : decode cX10_share 15 = .ok (.iload_n 2, 1) := by decide +kernel
theorem dX10_share_16 : decode cX10_share 16 = .ok (.iload_n 1, 1) := by decide +kernel
theorem dX10_share_17 : decode cX10_share 17 = .ok (.if_icmp .ge 35, 3) := by decide +kernel
theorem dX10_share_20 : decode cX10_share 20 = .ok (.aload_n 0, 1) := by decide +kernel
theorem dX10_share_21 : decode cX10_share 21 = .ok (.invokestatic 99, 3) := by decide +kernel
theorem dX10_share_24 : decode cX10_share 24 = .ok (.astore 4, 2) := by decide +kernel
theorem dX10_share_26 : decode cX10_share 26 = .ok (.aload 4, 2) := by decide +kernel
theorem dX10_share_28 : decode cX10_share 28 = .ok (.ifnonnull 4, 3) := by decide +kernel
theorem dX10_share_31 : decode cX10_share 31 = .ok (.return_, 1) := by decide +kernel
theorem dX10_share_32 : decode cX10_share 32 = .ok (.aload 4, 2) := by decide +kernel
theorem dX10_share_34 : decode cX10_share 34 = .ok (.dup, 1) := by decide +kernel
theorem dX10_share_35 : decode cX10_share 35 = .ok (.getfield 103, 3) := by decide +kernel
theorem dX10_share_38 : decode cX10_share 38 = .ok (.iconst 1, 1) := by decide +kernel
theorem dX10_share_39 : decode cX10_share 39 = .ok (.iadd, 1) := by decide +kernel
theorem dX10_share_40 : decode cX10_share 40 = .ok (.putfield 103, 3) := by decide +kernel
theorem dX10_share_43 : decode cX10_share 43 = .ok (.iinc 2 1, 3) := by decide +kernel
theorem dX10_share_46 : decode cX10_share 46 = .ok (.iinc 3 1, 3) := by decide +kernel
theorem dX10_share_49 : decode cX10_share 49 = .ok (.goto (-41), 3) := by decide +kernel
theorem dX10_share_52 : decode cX10_share 52 = .ok (.return_, 1) := by decide +kernel
theorem dX10_nearestBelow_0 : decode cX10_nearestBelow 0 = .ok (.iconst 0, 1) := by decide +kernel
theorem dX10_nearestBelow_1 : decode cX10_nearestBelow 1 = .ok (.istore_n 2, 1) := by decide +kernel
theorem dX10_nearestBelow_2 : decode cX10_nearestBelow 2 = .ok (.ldc 106, 2) := by decide +kernel
theorem dX10_nearestBelow_4 : decode cX10_nearestBelow 4 = .ok (.istore_n 3, 1) := by decide +kernel
theorem dX10_nearestBelow_5 : decode cX10_nearestBelow 5 = .ok (.iconst 0, 1) := by decide +kernel
theorem dX10_nearestBelow_6 : decode cX10_nearestBelow 6 = .ok (.istore 4, 2) := by decide +kernel
theorem dX10_nearestBelow_8 : decode cX10_nearestBelow 8 = .ok (.iload 4, 2) := by decide +kernel
theorem dX10_nearestBelow_10 : decode cX10_nearestBelow 10 = .ok (.bipush 32, 2) := by decide +kernel
theorem dX10_nearestBelow_12 : decode cX10_nearestBelow 12 = .ok (.if_icmp .ge 47, 3) := by decide +kernel
theorem dX10_nearestBelow_15 : decode cX10_nearestBelow 15 = .ok (.iload_n 2, 1) := by decide +kernel
theorem dX10_nearestBelow_16 : decode cX10_nearestBelow 16 = .ok (.iload_n 3, 1) := by decide +kernel
theorem dX10_nearestBelow_17 : decode cX10_nearestBelow 17 = .ok (.if_icmp .ge 42, 3) := by decide +kernel
theorem dX10_nearestBelow_20 : decode cX10_nearestBelow 20 = .ok (.iload_n 2, 1) := by decide +kernel
theorem dX10_nearestBelow_21 : decode cX10_nearestBelow 21 = .ok (.iload_n 3, 1) := by decide +kernel
theorem dX10_nearestBelow_22 : decode cX10_nearestBelow 22 = .ok (.iload_n 2, 1) := by decide +kernel
theorem dX10_nearestBelow_23 : decode cX10_nearestBelow 23 = .ok (.isub, 1) := by decide +kernel
theorem dX10_nearestBelow_24 : decode cX10_nearestBelow 24 = .ok (.iconst 1, 1) := by decide +kernel
theorem dX10_nearestBelow_25 : decode cX10_nearestBelow 25 = .ok (.iadd, 1) := by decide +kernel
theorem dX10_nearestBelow_26 : decode cX10_nearestBelow 26 = .ok (.iconst 2, 1) := by decide +kernel
theorem dX10_nearestBelow_27 : decode cX10_nearestBelow 27 = .ok (.idiv, 1) := by decide +kernel
theorem dX10_nearestBelow_28 : decode cX10_nearestBelow 28 = .ok (.iadd, 1) := by decide +kernel
theorem dX10_nearestBelow_29 : decode cX10_nearestBelow 29 = .ok (.istore 5, 2) := by decide +kernel
theorem dX10_nearestBelow_31 : decode cX10_nearestBelow 31 = .ok (.aload_n 0, 1) := by decide +kernel
theorem dX10_nearestBelow_32 : decode cX10_nearestBelow 32 = .ok (.iload 5, 2) := by decide +kernel
theorem dX10_nearestBelow_34 : decode cX10_nearestBelow 34 = .ok (.i2l, 1) := by decide +kernel
theorem dX10_nearestBelow_35 : decode cX10_nearestBelow 35 = .ok (.invokestatic 107, 3) := by decide +kernel
theorem dX10_nearestBelow_38 : decode cX10_nearestBelow 38 = .ok (.iload_n 1, 1) := by decide +kernel
theorem dX10_nearestBelow_39 : decode cX10_nearestBelow 39 = .ok (.if_icmp .gt 9, 3) := by decide +kernel
theorem dX10_nearestBelow_42 : decode cX10_nearestBelow 42 = .ok (.iload 5, 2) := by decide +kernel
theorem dX10_nearestBelow_44 : decode cX10_nearestBelow 44 = .ok (.istore_n 2, 1) := by decide +kernel
theorem dX10_nearestBelow_45 : decode cX10_nearestBelow 45 = .ok (.goto 8, 3) := by decide +kernel
theorem dX10_nearestBelow_48 : decode cX10_nearestBelow 48 = .ok (.iload 5, 2) := by decide +kernel
theorem dX10_nearestBelow_50 : decode cX10_nearestBelow 50 = .ok (.iconst 1, 1) := by decide +kernel
theorem dX10_nearestBelow_51 : decode cX10_nearestBelow 51 = .ok (.isub, 1) := by decide +kernel
theorem dX10_nearestBelow_52 : decode cX10_nearestBelow 52 = .ok (.istore_n 3, 1) := by decide +kernel
theorem dX10_nearestBelow_53 : decode cX10_nearestBelow 53 = .ok (.iinc 4 1, 3) := by decide +kernel
theorem dX10_nearestBelow_56 : decode cX10_nearestBelow 56 = .ok (.goto (-48), 3) := by decide +kernel
theorem dX10_nearestBelow_59 : decode cX10_nearestBelow 59 = .ok (.aload_n 0, 1) := by decide +kernel
theorem dX10_nearestBelow_60 : decode cX10_nearestBelow 60 = .ok (.iload_n 2, 1) := by decide +kernel
theorem dX10_nearestBelow_61 : decode cX10_nearestBelow 61 = .ok (.i2l, 1) := by decide +kernel
theorem dX10_nearestBelow_62 : decode cX10_nearestBelow 62 = .ok (.invokestatic 107, 3) := by decide +kernel
theorem dX10_nearestBelow_65 : decode cX10_nearestBelow 65 = .ok (.ireturn, 1) := by decide +kernel
theorem dX10_giveUpTo_0 : decode cX10_giveUpTo 0 = .ok (.iconst 0, 1) := by decide +kernel
theorem dX10_giveUpTo_1 : decode cX10_giveUpTo 1 = .ok (.istore_n 3, 1) := by decide +kernel
theorem dX10_giveUpTo_2 : decode cX10_giveUpTo 2 = .ok (.aload_n 0, 1) := by decide +kernel
theorem dX10_giveUpTo_3 : decode cX10_giveUpTo 3 = .ok (.astore 4, 2) := by decide +kernel
theorem dX10_giveUpTo_5 : decode cX10_giveUpTo 5 = .ok (.aload 4, 2) := by decide +kernel
theorem dX10_giveUpTo_7 : decode cX10_giveUpTo 7 = .ok (.arraylength, 1) := by decide +kernel
theorem dX10_giveUpTo_8 : decode cX10_giveUpTo 8 = .ok (.istore 5, 2) := by decide +kernel
theorem dX10_giveUpTo_10 : decode cX10_giveUpTo 10 = .ok (.iconst 0, 1) := by decide +kernel
theorem dX10_giveUpTo_11 : decode cX10_giveUpTo 11 = .ok (.istore 6, 2) := by decide +kernel
theorem dX10_giveUpTo_13 : decode cX10_giveUpTo 13 = .ok (.iload 6, 2) := by decide +kernel
theorem dX10_giveUpTo_15 : decode cX10_giveUpTo 15 = .ok (.iload 5, 2) := by decide +kernel
theorem dX10_giveUpTo_17 : decode cX10_giveUpTo 17 = .ok (.if_icmp .ge 75, 3) := by decide +kernel
theorem dX10_giveUpTo_20 : decode cX10_giveUpTo 20 = .ok (.aload 4, 2) := by decide +kernel
theorem dX10_giveUpTo_22 : decode cX10_giveUpTo 22 = .ok (.iload 6, 2) := by decide +kernel
theorem dX10_giveUpTo_24 : decode cX10_giveUpTo 24 = .ok (.aaload, 1) := by decide +kernel
theorem dX10_giveUpTo_25 : decode cX10_giveUpTo 25 = .ok (.astore 7, 2) := by decide +kernel
theorem dX10_giveUpTo_27 : decode cX10_giveUpTo 27 = .ok (.aload 7, 2) := by decide +kernel
theorem dX10_giveUpTo_29 : decode cX10_giveUpTo 29 = .ok (.getfield 39, 3) := by decide +kernel
theorem dX10_giveUpTo_32 : decode cX10_giveUpTo 32 = .ok (.ifCond .ne 6, 3) := by decide +kernel
theorem dX10_giveUpTo_35 : decode cX10_giveUpTo 35 = .ok (.goto 51, 3) := by decide +kernel
theorem dX10_giveUpTo_38 : decode cX10_giveUpTo 38 = .ok (.lload_n 1, 1) := by decide +kernel
theorem dX10_giveUpTo_39 : decode cX10_giveUpTo 39 = .ok (.aload 7, 2) := by decide +kernel
theorem dX10_giveUpTo_41 : decode cX10_giveUpTo 41 = .ok (.getfield 89, 3) := by decide +kernel
theorem dX10_giveUpTo_44 : decode cX10_giveUpTo 44 = .ok (.i2l, 1) := by decide +kernel
theorem dX10_giveUpTo_45 : decode cX10_giveUpTo 45 = .ok (.lmul, 1) := by decide +kernel
theorem dX10_giveUpTo_46 : decode cX10_giveUpTo 46 = .ok (.ldc2_w 111, 3) := by decide +kernel
theorem dX10_giveUpTo_49 : decode cX10_giveUpTo 49 = .ok (.ldiv, 1) := by decide +kernel
theorem dX10_giveUpTo_50 : decode cX10_giveUpTo 50 = .ok (.lstore 8, 2) := by decide +kernel
theorem dX10_giveUpTo_52 : decode cX10_giveUpTo 52 = .ok (.aload 7, 2) := by decide +kernel
theorem dX10_giveUpTo_54 : decode cX10_giveUpTo 54 = .ok (.aload 7, 2) := by decide +kernel
theorem dX10_giveUpTo_56 : decode cX10_giveUpTo 56 = .ok (.getfield 22, 3) := by decide +kernel
theorem dX10_giveUpTo_59 : decode cX10_giveUpTo 59 = .ok (.i2l, 1) := by decide +kernel
theorem dX10_giveUpTo_60 : decode cX10_giveUpTo 60 = .ok (.aload 7, 2) := by decide +kernel
theorem dX10_giveUpTo_62 : decode cX10_giveUpTo 62 = .ok (.getfield 26, 3) := by decide +kernel
theorem dX10_giveUpTo_65 : decode cX10_giveUpTo 65 = .ok (.i2l, 1) := by decide +kernel
theorem dX10_giveUpTo_66 : decode cX10_giveUpTo 66 = .ok (.lload 8, 2) := by decide +kernel
theorem dX10_giveUpTo_68 : decode cX10_giveUpTo 68 = .ok (.invokestatic 113, 3) := by decide +kernel
theorem dX10_giveUpTo_71 : decode cX10_giveUpTo 71 = .ok (.invokestatic 117, 3) := by decide +kernel
theorem dX10_giveUpTo_74 : decode cX10_giveUpTo 74 = .ok (.l2i, 1) := by decide +kernel
theorem dX10_giveUpTo_75 : decode cX10_giveUpTo 75 = .ok (.putfield 103, 3) := by decide +kernel
theorem dX10_giveUpTo_78 : decode cX10_giveUpTo 78 = .ok (.iload_n 3, 1) := by decide +kernel
theorem dX10_giveUpTo_79 : decode cX10_giveUpTo 79 = .ok (.aload 7, 2) := by decide +kernel
theorem dX10_giveUpTo_81 : decode cX10_giveUpTo 81 = .ok (.getfield 103, 3) := by decide +kernel
theorem dX10_giveUpTo_84 : decode cX10_giveUpTo 84 = .ok (.iadd, 1) := by decide +kernel
theorem dX10_giveUpTo_85 : decode cX10_giveUpTo 85 = .ok (.istore_n 3, 1) := by decide +kernel
theorem dX10_giveUpTo_86 : decode cX10_giveUpTo 86 = .ok (.iinc 6 1, 3) := by decide +kernel
theorem dX10_giveUpTo_89 : decode cX10_giveUpTo 89 = .ok (.goto (-76), 3) := by decide +kernel
theorem dX10_giveUpTo_92 : decode cX10_giveUpTo 92 = .ok (.iload_n 3, 1) := by decide +kernel
theorem dX10_giveUpTo_93 : decode cX10_giveUpTo 93 = .ok (.ireturn, 1) := by decide +kernel
theorem dX10_nextToGrow_0 : decode cX10_nextToGrow 0 = .ok (.aconst_null, 1) := by decide +kernel
theorem dX10_nextToGrow_1 : decode cX10_nextToGrow 1 = .ok (.astore_n 1, 1) := by decide +kernel
theorem dX10_nextToGrow_2 : decode cX10_nextToGrow 2 = .ok (.aload_n 0, 1) := by decide +kernel
theorem dX10_nextToGrow_3 : decode cX10_nextToGrow 3 = .ok (.astore_n 2, 1) := by decide +kernel
theorem dX10_nextToGrow_4 : decode cX10_nextToGrow 4 = .ok (.aload_n 2, 1) := by decide +kernel
theorem dX10_nextToGrow_5 : decode cX10_nextToGrow 5 = .ok (.arraylength, 1) := by decide +kernel
theorem dX10_nextToGrow_6 : decode cX10_nextToGrow 6 = .ok (.istore_n 3, 1) := by decide +kernel
theorem dX10_nextToGrow_7 : decode cX10_nextToGrow 7 = .ok (.iconst 0, 1) := by decide +kernel
theorem dX10_nextToGrow_8 : decode cX10_nextToGrow 8 = .ok (.istore 4, 2) := by decide +kernel
theorem dX10_nextToGrow_10 : decode cX10_nextToGrow 10 = .ok (.iload 4, 2) := by decide +kernel
theorem dX10_nextToGrow_12 : decode cX10_nextToGrow 12 = .ok (.iload_n 3, 1) := by decide +kernel
theorem dX10_nextToGrow_13 : decode cX10_nextToGrow 13 = .ok (.if_icmp .ge 73, 3) := by decide +kernel
theorem dX10_nextToGrow_16 : decode cX10_nextToGrow 16 = .ok (.aload_n 2, 1) := by decide +kernel
theorem dX10_nextToGrow_17 : decode cX10_nextToGrow 17 = .ok (.iload 4, 2) := by decide +kernel
theorem dX10_nextToGrow_19 : decode cX10_nextToGrow 19 = .ok (.aaload, 1) := by decide +kernel
theorem dX10_nextToGrow_20 : decode cX10_nextToGrow 20 = .ok (.astore 5, 2) := by decide +kernel
theorem dX10_nextToGrow_22 : decode cX10_nextToGrow 22 = .ok (.aload 5, 2) := by decide +kernel
theorem dX10_nextToGrow_24 : decode cX10_nextToGrow 24 = .ok (.getfield 39, 3) := by decide +kernel
theorem dX10_nextToGrow_27 : decode cX10_nextToGrow 27 = .ok (.ifCond .eq 53, 3) := by decide +kernel
theorem dX10_nextToGrow_30 : decode cX10_nextToGrow 30 = .ok (.aload 5, 2) := by decide +kernel
theorem dX10_nextToGrow_32 : decode cX10_nextToGrow 32 = .ok (.getfield 103, 3) := by decide +kernel
theorem dX10_nextToGrow_35 : decode cX10_nextToGrow 35 = .ok (.aload 5, 2) := by decide +kernel
theorem dX10_nextToGrow_37 : decode cX10_nextToGrow 37 = .ok (.getfield 26, 3) := by decide +kernel
theorem dX10_nextToGrow_40 : decode cX10_nextToGrow 40 = .ok (.if_icmp .lt 6, 3) := by decide +kernel
theorem dX10_nextToGrow_43 : decode cX10_nextToGrow 43 = .ok (.goto 37, 3) := by decide +kernel
theorem dX10_nextToGrow_46 : decode cX10_nextToGrow 46 = .ok (.aload_n 1, 1) := by decide +kernel
theorem dX10_nextToGrow_47 : decode cX10_nextToGrow 47 = .ok (.ifnull 30, 3) := by decide +kernel
theorem dX10_nextToGrow_50 : decode cX10_nextToGrow 50 = .ok (.aload 5, 2) := by decide +kernel
theorem dX10_nextToGrow_52 : decode cX10_nextToGrow 52 = .ok (.getfield 103, 3) := by decide +kernel
theorem dX10_nextToGrow_55 : decode cX10_nextToGrow 55 = .ok (.iconst 1, 1) := by decide +kernel
theorem dX10_nextToGrow_56 : decode cX10_nextToGrow 56 = .ok (.iadd, 1) := by decide +kernel
theorem dX10_nextToGrow_57 : decode cX10_nextToGrow 57 = .ok (.aload_n 1, 1) := by decide +kernel
theorem dX10_nextToGrow_58 : decode cX10_nextToGrow 58 = .ok (.getfield 89, 3) := by decide +kernel
theorem dX10_nextToGrow_61 : decode cX10_nextToGrow 61 = .ok (.imul, 1) := by decide +kernel
theorem dX10_nextToGrow_62 : decode cX10_nextToGrow 62 = .ok (.aload_n 1, 1) := by decide +kernel
theorem dX10_nextToGrow_63 : decode cX10_nextToGrow 63 = .ok (.getfield 103, 3) := by decide +kernel
theorem dX10_nextToGrow_66 : decode cX10_nextToGrow 66 = .ok (.iconst 1, 1) := by decide +kernel
theorem dX10_nextToGrow_67 : decode cX10_nextToGrow 67 = .ok (.iadd, 1) := by decide +kernel
theorem dX10_nextToGrow_68 : decode cX10_nextToGrow 68 = .ok (.aload 5, 2) := by decide +kernel
theorem dX10_nextToGrow_70 : decode cX10_nextToGrow 70 = .ok (.getfield 89, 3) := by decide +kernel
theorem dX10_nextToGrow_73 : decode cX10_nextToGrow 73 = .ok (.imul, 1) := by decide +kernel
theorem dX10_nextToGrow_74 : decode cX10_nextToGrow 74 = .ok (.if_icmp .ge 6, 3) := by decide +kernel
theorem dX10_nextToGrow_77 : decode cX10_nextToGrow 77 = .ok (.aload 5, 2) := by decide +kernel
theorem dX10_nextToGrow_79 : decode cX10_nextToGrow 79 = .ok (.astore_n 1, 1) := by decide +kernel
theorem dX10_nextToGrow_80 : decode cX10_nextToGrow 80 = .ok (.iinc 4 1, 3) := by decide +kernel
theorem dX10_nextToGrow_83 : decode cX10_nextToGrow 83 = .ok (.goto (-73), 3) := by decide +kernel
theorem dX10_nextToGrow_86 : decode cX10_nextToGrow 86 = .ok (.aload_n 1, 1) := by decide +kernel
theorem dX10_nextToGrow_87 : decode cX10_nextToGrow 87 = .ok (.areturn, 1) := by decide +kernel
theorem dX10_make_0 : decode cX10_make 0 = .ok (.aload_n 0, 1) := by decide +kernel
theorem dX10_make_1 : decode cX10_make 1 = .ok (.getfield 39, 3) := by decide +kernel
theorem dX10_make_4 : decode cX10_make 4 = .ok (.ifCond .ne 4, 3) := by decide +kernel
theorem dX10_make_7 : decode cX10_make 7 = .ok (.return_, 1) := by decide +kernel
theorem dX10_make_8 : decode cX10_make 8 = .ok (.iload_n 1, 1) := by decide +kernel
theorem dX10_make_9 : decode cX10_make 9 = .ok (.iconst 5, 1) := by decide +kernel
theorem dX10_make_10 : decode cX10_make 10 = .ok (.imul, 1) := by decide +kernel
theorem dX10_make_11 : decode cX10_make 11 = .ok (.istore_n 3, 1) := by decide +kernel
theorem dX10_make_12 : decode cX10_make 12 = .ok (.aload_n 0, 1) := by decide +kernel
theorem dX10_make_13 : decode cX10_make 13 = .ok (.getfield 11, 3) := by decide +kernel
theorem dX10_make_16 : decode cX10_make 16 = .ok (.iload_n 3, 1) := by decide +kernel
theorem dX10_make_17 : decode cX10_make 17 = .ok (.iconst 0, 1) := by decide +kernel
theorem dX10_make_18 : decode cX10_make 18 = .ok (.iadd, 1) := by decide +kernel
theorem dX10_make_19 : decode cX10_make 19 = .ok (.iconst 1, 1) := by decide +kernel
theorem dX10_make_20 : decode cX10_make 20 = .ok (.iastore, 1) := by decide +kernel
theorem dX10_make_21 : decode cX10_make 21 = .ok (.aload_n 0, 1) := by decide +kernel
theorem dX10_make_22 : decode cX10_make 22 = .ok (.getfield 11, 3) := by decide +kernel
theorem dX10_make_25 : decode cX10_make 25 = .ok (.iload_n 3, 1) := by decide +kernel
theorem dX10_make_26 : decode cX10_make 26 = .ok (.iconst 1, 1) := by decide +kernel
theorem dX10_make_27 : decode cX10_make 27 = .ok (.iadd, 1) := by decide +kernel
theorem dX10_make_28 : decode cX10_make 28 = .ok (.aload_n 0, 1) := by decide +kernel
theorem dX10_make_29 : decode cX10_make 29 = .ok (.getfield 103, 3) := by decide +kernel
theorem dX10_make_32 : decode cX10_make 32 = .ok (.iastore, 1) := by decide +kernel
theorem dX10_make_33 : decode cX10_make 33 = .ok (.aload_n 0, 1) := by decide +kernel
theorem dX10_make_34 : decode cX10_make 34 = .ok (.getfield 11, 3) := by decide +kernel
theorem dX10_make_37 : decode cX10_make 37 = .ok (.iload_n 3, 1) := by decide +kernel
theorem dX10_make_38 : decode cX10_make 38 = .ok (.iconst 2, 1) := by decide +kernel
theorem dX10_make_39 : decode cX10_make 39 = .ok (.iadd, 1) := by decide +kernel
theorem dX10_make_40 : decode cX10_make 40 = .ok (.aload_n 0, 1) := by decide +kernel
theorem dX10_make_41 : decode cX10_make 41 = .ok (.getfield 75, 3) := by decide +kernel
theorem dX10_make_44 : decode cX10_make 44 = .ok (.iastore, 1) := by decide +kernel
theorem dX10_make_45 : decode cX10_make 45 = .ok (.aload_n 0, 1) := by decide +kernel
theorem dX10_make_46 : decode cX10_make 46 = .ok (.getfield 11, 3) := by decide +kernel
theorem dX10_make_49 : decode cX10_make 49 = .ok (.iload_n 3, 1) := by decide +kernel
theorem dX10_make_50 : decode cX10_make 50 = .ok (.iconst 3, 1) := by decide +kernel
theorem dX10_make_51 : decode cX10_make 51 = .ok (.iadd, 1) := by decide +kernel
theorem dX10_make_52 : decode cX10_make 52 = .ok (.aload_n 2, 1) := by decide +kernel
theorem dX10_make_53 : decode cX10_make 53 = .ok (.getfield 119, 3) := by decide +kernel
theorem dX10_make_56 : decode cX10_make 56 = .ok (.iastore, 1) := by decide +kernel
theorem dX10_make_57 : decode cX10_make 57 = .ok (.iload_n 1, 1) := by decide +kernel
theorem dX10_make_58 : decode cX10_make 58 = .ok (.bipush 8, 2) := by decide +kernel
theorem dX10_make_60 : decode cX10_make 60 = .ok (.irem, 1) := by decide +kernel
theorem dX10_make_61 : decode cX10_make 61 = .ok (.sipush 3014, 3) := by decide +kernel
theorem dX10_make_64 : decode cX10_make 64 = .ok (.imul, 1) := by decide +kernel
theorem dX10_make_65 : decode cX10_make 65 = .ok (.istore 4, 2) := by decide +kernel
theorem dX10_make_67 : decode cX10_make 67 = .ok (.aload_n 0, 1) := by decide +kernel
theorem dX10_make_68 : decode cX10_make 68 = .ok (.iload 4, 2) := by decide +kernel
theorem dX10_make_70 : decode cX10_make 70 = .ok (.aload_n 0, 1) := by decide +kernel
theorem dX10_make_71 : decode cX10_make 71 = .ok (.getfield 45, 3) := by decide +kernel
theorem dX10_make_74 : decode cX10_make 74 = .ok (.ldc2_w 122, 3) := by decide +kernel
theorem dX10_make_77 : decode cX10_make 77 = .ok (.iload_n 1, 1) := by decide +kernel
theorem dX10_make_78 : decode cX10_make 78 = .ok (.bipush 8, 2) := by decide +kernel
theorem dX10_make_80 : decode cX10_make 80 = .ok (.iadd, 1) := by decide +kernel
theorem dX10_make_81 : decode cX10_make 81 = .ok (.i2l, 1) := by decide +kernel
theorem dX10_make_82 : decode cX10_make 82 = .ok (.lmul, 1) := by decide +kernel
theorem dX10_make_83 : decode cX10_make 83 = .ok (.ladd, 1) := by decide +kernel
theorem dX10_make_84 : decode cX10_make 84 = .ok (.ldc2_w 124, 3) := by decide +kernel
theorem dX10_make_87 : decode cX10_make 87 = .ok (.lrem, 1) := by decide +kernel
theorem dX10_make_88 : decode cX10_make 88 = .ok (.invokevirtual 126, 3) := by decide +kernel
theorem dX10_make_91 : decode cX10_make 91 = .ok (.aload_n 0, 1) := by decide +kernel
theorem dX10_make_92 : decode cX10_make 92 = .ok (.iload 4, 2) := by decide +kernel
theorem dX10_make_94 : decode cX10_make 94 = .ok (.bipush 14, 2) := by decide +kernel
theorem dX10_make_96 : decode cX10_make 96 = .ok (.iadd, 1) := by decide +kernel
theorem dX10_make_97 : decode cX10_make 97 = .ok (.iload_n 1, 1) := by decide +kernel
theorem dX10_make_98 : decode cX10_make 98 = .ok (.aload_n 2, 1) := by decide +kernel
theorem dX10_make_99 : decode cX10_make 99 = .ok (.invokevirtual 130, 3) := by decide +kernel
theorem dX10_make_102 : decode cX10_make 102 = .ok (.return_, 1) := by decide +kernel
theorem dX10_putHeader_0 : decode cX10_putHeader 0 = .ok (.aload_n 0, 1) := by decide +kernel
theorem dX10_putHeader_1 : decode cX10_putHeader 1 = .ok (.getfield 15, 3) := by decide +kernel
theorem dX10_putHeader_4 : decode cX10_putHeader 4 = .ok (.iload_n 1, 1) := by decide +kernel
theorem dX10_putHeader_5 : decode cX10_putHeader 5 = .ok (.sipush 480, 3) := by decide +kernel
theorem dX10_putHeader_8 : decode cX10_putHeader 8 = .ok (.invokestatic 134, 3) := by decide +kernel
theorem dX10_putHeader_11 : decode cX10_putHeader 11 = .ok (.aload_n 0, 1) := by decide +kernel
theorem dX10_putHeader_12 : decode cX10_putHeader 12 = .ok (.getfield 15, 3) := by decide +kernel
theorem dX10_putHeader_15 : decode cX10_putHeader 15 = .ok (.iload_n 1, 1) := by decide +kernel
theorem dX10_putHeader_16 : decode cX10_putHeader 16 = .ok (.iconst 4, 1) := by decide +kernel
theorem dX10_putHeader_17 : decode cX10_putHeader 17 = .ok (.iadd, 1) := by decide +kernel
theorem dX10_putHeader_18 : decode cX10_putHeader 18 = .ok (.bipush 8, 2) := by decide +kernel
theorem dX10_putHeader_20 : decode cX10_putHeader 20 = .ok (.aload_n 0, 1) := by decide +kernel
theorem dX10_putHeader_21 : decode cX10_putHeader 21 = .ok (.getfield 103, 3) := by decide +kernel
theorem dX10_putHeader_24 : decode cX10_putHeader 24 = .ok (.iadd, 1) := by decide +kernel
theorem dX10_putHeader_25 : decode cX10_putHeader 25 = .ok (.invokestatic 140, 3) := by decide +kernel
theorem dX10_putHeader_28 : decode cX10_putHeader 28 = .ok (.aload_n 0, 1) := by decide +kernel
theorem dX10_putHeader_29 : decode cX10_putHeader 29 = .ok (.getfield 15, 3) := by decide +kernel
theorem dX10_putHeader_32 : decode cX10_putHeader 32 = .ok (.iload_n 1, 1) := by decide +kernel
theorem dX10_putHeader_33 : decode cX10_putHeader 33 = .ok (.bipush 6, 2) := by decide +kernel
theorem dX10_putHeader_35 : decode cX10_putHeader 35 = .ok (.iadd, 1) := by decide +kernel
theorem dX10_putHeader_36 : decode cX10_putHeader 36 = .ok (.ldc 143, 2) := by decide +kernel
theorem dX10_putHeader_38 : decode cX10_putHeader 38 = .ok (.invokestatic 140, 3) := by decide +kernel
theorem dX10_putHeader_41 : decode cX10_putHeader 41 = .ok (.aload_n 0, 1) := by decide +kernel
theorem dX10_putHeader_42 : decode cX10_putHeader 42 = .ok (.getfield 15, 3) := by decide +kernel
theorem dX10_putHeader_45 : decode cX10_putHeader 45 = .ok (.iload_n 1, 1) := by decide +kernel
theorem dX10_putHeader_46 : decode cX10_putHeader 46 = .ok (.bipush 8, 2) := by decide +kernel
theorem dX10_putHeader_48 : decode cX10_putHeader 48 = .ok (.iadd, 1) := by decide +kernel
theorem dX10_putHeader_49 : decode cX10_putHeader 49 = .ok (.iconst 5, 1) := by decide +kernel
theorem dX10_putHeader_50 : decode cX10_putHeader 50 = .ok (.bastore, 1) := by decide +kernel
theorem dX10_putHeader_51 : decode cX10_putHeader 51 = .ok (.aload_n 0, 1) := by decide +kernel
theorem dX10_putHeader_52 : decode cX10_putHeader 52 = .ok (.getfield 15, 3) := by decide +kernel
theorem dX10_putHeader_55 : decode cX10_putHeader 55 = .ok (.iload_n 1, 1) := by decide +kernel
theorem dX10_putHeader_56 : decode cX10_putHeader 56 = .ok (.bipush 9, 2) := by decide +kernel
theorem dX10_putHeader_58 : decode cX10_putHeader 58 = .ok (.iadd, 1) := by decide +kernel
theorem dX10_putHeader_59 : decode cX10_putHeader 59 = .ok (.ldc2_w 144, 3) := by decide +kernel
theorem dX10_putHeader_62 : decode cX10_putHeader 62 = .ok (.ldc2_w 146, 3) := by decide +kernel
theorem dX10_putHeader_65 : decode cX10_putHeader 65 = .ok (.lload_n 2, 1) := by decide +kernel
theorem dX10_putHeader_66 : decode cX10_putHeader 66 = .ok (.bipush 30, 2) := by decide +kernel
theorem dX10_putHeader_68 : decode cX10_putHeader 68 = .ok (.lshr, 1) := by decide +kernel
theorem dX10_putHeader_69 : decode cX10_putHeader 69 = .ok (.ldc2_w 148, 3) := by decide +kernel
theorem dX10_putHeader_72 : decode cX10_putHeader 72 = .ok (.land, 1) := by decide +kernel
theorem dX10_putHeader_73 : decode cX10_putHeader 73 = .ok (.lmul, 1) := by decide +kernel
theorem dX10_putHeader_74 : decode cX10_putHeader 74 = .ok (.ladd, 1) := by decide +kernel
theorem dX10_putHeader_75 : decode cX10_putHeader 75 = .ok (.l2i, 1) := by decide +kernel
theorem dX10_putHeader_76 : decode cX10_putHeader 76 = .ok (.i2b, 1) := by decide +kernel
theorem dX10_putHeader_77 : decode cX10_putHeader 77 = .ok (.bastore, 1) := by decide +kernel
theorem dX10_putHeader_78 : decode cX10_putHeader 78 = .ok (.aload_n 0, 1) := by decide +kernel
theorem dX10_putHeader_79 : decode cX10_putHeader 79 = .ok (.getfield 15, 3) := by decide +kernel
theorem dX10_putHeader_82 : decode cX10_putHeader 82 = .ok (.iload_n 1, 1) := by decide +kernel
theorem dX10_putHeader_83 : decode cX10_putHeader 83 = .ok (.bipush 10, 2) := by decide +kernel
theorem dX10_putHeader_85 : decode cX10_putHeader 85 = .ok (.iadd, 1) := by decide +kernel
theorem dX10_putHeader_86 : decode cX10_putHeader 86 = .ok (.lload_n 2, 1) := by decide +kernel
theorem dX10_putHeader_87 : decode cX10_putHeader 87 = .ok (.bipush 22, 2) := by decide +kernel
theorem dX10_putHeader_89 : decode cX10_putHeader 89 = .ok (.lshr, 1) := by decide +kernel
theorem dX10_putHeader_90 : decode cX10_putHeader 90 = .ok (.l2i, 1) := by decide +kernel
theorem dX10_putHeader_91 : decode cX10_putHeader 91 = .ok (.i2b, 1) := by decide +kernel
theorem dX10_putHeader_92 : decode cX10_putHeader 92 = .ok (.bastore, 1) := by decide +kernel
theorem dX10_putHeader_93 : decode cX10_putHeader 93 = .ok (.aload_n 0, 1) := by decide +kernel
theorem dX10_putHeader_94 : decode cX10_putHeader 94 = .ok (.getfield 15, 3) := by decide +kernel
theorem dX10_putHeader_97 : decode cX10_putHeader 97 = .ok (.iload_n 1, 1) := by decide +kernel
theorem dX10_putHeader_98 : decode cX10_putHeader 98 = .ok (.bipush 11, 2) := by decide +kernel
theorem dX10_putHeader_100 : decode cX10_putHeader 100 = .ok (.iadd, 1) := by decide +kernel
theorem dX10_putHeader_101 : decode cX10_putHeader 101 = .ok (.lconst 1, 1) := by decide +kernel
theorem dX10_putHeader_102 : decode cX10_putHeader 102 = .ok (.ldc2_w 146, 3) := by decide +kernel
theorem dX10_putHeader_105 : decode cX10_putHeader 105 = .ok (.lload_n 2, 1) := by decide +kernel
theorem dX10_putHeader_106 : decode cX10_putHeader 106 = .ok (.bipush 15, 2) := by decide +kernel
theorem dX10_putHeader_108 : decode cX10_putHeader 108 = .ok (.lshr, 1) := by decide +kernel
theorem dX10_putHeader_109 : decode cX10_putHeader 109 = .ok (.ldc2_w 150, 3) := by decide +kernel
theorem dX10_putHeader_112 : decode cX10_putHeader 112 = .ok (.land, 1) := by decide +kernel
theorem dX10_putHeader_113 : decode cX10_putHeader 113 = .ok (.lmul, 1) := by decide +kernel
theorem dX10_putHeader_114 : decode cX10_putHeader 114 = .ok (.ladd, 1) := by decide +kernel
theorem dX10_putHeader_115 : decode cX10_putHeader 115 = .ok (.l2i, 1) := by decide +kernel
theorem dX10_putHeader_116 : decode cX10_putHeader 116 = .ok (.i2b, 1) := by decide +kernel
theorem dX10_putHeader_117 : decode cX10_putHeader 117 = .ok (.bastore, 1) := by decide +kernel
theorem dX10_putHeader_118 : decode cX10_putHeader 118 = .ok (.aload_n 0, 1) := by decide +kernel
theorem dX10_putHeader_119 : decode cX10_putHeader 119 = .ok (.getfield 15, 3) := by decide +kernel
theorem dX10_putHeader_122 : decode cX10_putHeader 122 = .ok (.iload_n 1, 1) := by decide +kernel
theorem dX10_putHeader_123 : decode cX10_putHeader 123 = .ok (.bipush 12, 2) := by decide +kernel
theorem dX10_putHeader_125 : decode cX10_putHeader 125 = .ok (.iadd, 1) := by decide +kernel
theorem dX10_putHeader_126 : decode cX10_putHeader 126 = .ok (.lload_n 2, 1) := by decide +kernel
theorem dX10_putHeader_127 : decode cX10_putHeader 127 = .ok (.bipush 7, 2) := by decide +kernel
theorem dX10_putHeader_129 : decode cX10_putHeader 129 = .ok (.lshr, 1) := by decide +kernel
theorem dX10_putHeader_130 : decode cX10_putHeader 130 = .ok (.l2i, 1) := by decide +kernel
theorem dX10_putHeader_131 : decode cX10_putHeader 131 = .ok (.i2b, 1) := by decide +kernel
theorem dX10_putHeader_132 : decode cX10_putHeader 132 = .ok (.bastore, 1) := by decide +kernel
theorem dX10_putHeader_133 : decode cX10_putHeader 133 = .ok (.aload_n 0, 1) := by decide +kernel
theorem dX10_putHeader_134 : decode cX10_putHeader 134 = .ok (.getfield 15, 3) := by decide +kernel
theorem dX10_putHeader_137 : decode cX10_putHeader 137 = .ok (.iload_n 1, 1) := by decide +kernel
theorem dX10_putHeader_138 : decode cX10_putHeader 138 = .ok (.bipush 13, 2) := by decide +kernel
theorem dX10_putHeader_140 : decode cX10_putHeader 140 = .ok (.iadd, 1) := by decide +kernel
theorem dX10_putHeader_141 : decode cX10_putHeader 141 = .ok (.lconst 1, 1) := by decide +kernel
theorem dX10_putHeader_142 : decode cX10_putHeader 142 = .ok (.ldc2_w 146, 3) := by decide +kernel
theorem dX10_putHeader_145 : decode cX10_putHeader 145 = .ok (.lload_n 2, 1) := by decide +kernel
theorem dX10_putHeader_146 : decode cX10_putHeader 146 = .ok (.ldc2_w 150, 3) := by decide +kernel
theorem dX10_putHeader_149 : decode cX10_putHeader 149 = .ok (.land, 1) := by decide +kernel
theorem dX10_putHeader_150 : decode cX10_putHeader 150 = .ok (.lmul, 1) := by decide +kernel
theorem dX10_putHeader_151 : decode cX10_putHeader 151 = .ok (.ladd, 1) := by decide +kernel
theorem dX10_putHeader_152 : decode cX10_putHeader 152 = .ok (.l2i, 1) := by decide +kernel
theorem dX10_putHeader_153 : decode cX10_putHeader 153 = .ok (.i2b, 1) := by decide +kernel
theorem dX10_putHeader_154 : decode cX10_putHeader 154 = .ok (.bastore, 1) := by decide +kernel
theorem dX10_putHeader_155 : decode cX10_putHeader 155 = .ok (.return_, 1) := by decide +kernel
theorem dX10_putBody_0 : decode cX10_putBody 0 = .ok (.aload_n 3, 1) := by decide +kernel
theorem dX10_putBody_1 : decode cX10_putBody 1 = .ok (.iload_n 2, 1) := by decide +kernel
theorem dX10_putBody_2 : decode cX10_putBody 2 = .ok (.invokevirtual 78, 3) := by decide +kernel
theorem dX10_putBody_5 : decode cX10_putBody 5 = .ok (.istore 4, 2) := by decide +kernel
theorem dX10_putBody_7 : decode cX10_putBody 7 = .ok (.aload_n 0, 1) := by decide +kernel
theorem dX10_putBody_8 : decode cX10_putBody 8 = .ok (.getfield 15, 3) := by decide +kernel
theorem dX10_putBody_11 : decode cX10_putBody 11 = .ok (.iload_n 1, 1) := by decide +kernel
theorem dX10_putBody_12 : decode cX10_putBody 12 = .ok (.iconst 4, 1) := by decide +kernel
theorem dX10_putBody_13 : decode cX10_putBody 13 = .ok (.iadd, 1) := by decide +kernel
theorem dX10_putBody_14 : decode cX10_putBody 14 = .ok (.iload_n 2, 1) := by decide +kernel
theorem dX10_putBody_15 : decode cX10_putBody 15 = .ok (.invokestatic 140, 3) := by decide +kernel
theorem dX10_putBody_18 : decode cX10_putBody 18 = .ok (.aload_n 0, 1) := by decide +kernel
theorem dX10_putBody_19 : decode cX10_putBody 19 = .ok (.getfield 15, 3) := by decide +kernel
theorem dX10_putBody_22 : decode cX10_putBody 22 = .ok (.iload_n 1, 1) := by decide +kernel
theorem dX10_putBody_23 : decode cX10_putBody 23 = .ok (.bipush 6, 2) := by decide +kernel
theorem dX10_putBody_25 : decode cX10_putBody 25 = .ok (.iadd, 1) := by decide +kernel
theorem dX10_putBody_26 : decode cX10_putBody 26 = .ok (.iload 4, 2) := by decide +kernel
theorem dX10_putBody_28 : decode cX10_putBody 28 = .ok (.iconst (-1), 1) := by decide +kernel
theorem dX10_putBody_29 : decode cX10_putBody 29 = .ok (.if_icmp .ne 7, 3) := by decide +kernel
theorem dX10_putBody_32 : decode cX10_putBody 32 = .ok (.iconst 0, 1) := by decide +kernel
theorem dX10_putBody_33 : decode cX10_putBody 33 = .ok (.goto 7, 3) := by decide +kernel
theorem dX10_putBody_36 : decode cX10_putBody 36 = .ok (.iconst 1, 1) := by decide +kernel
theorem dX10_putBody_37 : decode cX10_putBody 37 = .ok (.iload 4, 2) := by decide +kernel
theorem dX10_putBody_39 : decode cX10_putBody 39 = .ok (.iadd, 1) := by decide +kernel
theorem dX10_putBody_40 : decode cX10_putBody 40 = .ok (.i2b, 1) := by decide +kernel
theorem dX10_putBody_41 : decode cX10_putBody 41 = .ok (.bastore, 1) := by decide +kernel
theorem dX10_putBody_42 : decode cX10_putBody 42 = .ok (.aload_n 0, 1) := by decide +kernel
theorem dX10_putBody_43 : decode cX10_putBody 43 = .ok (.getfield 15, 3) := by decide +kernel
theorem dX10_putBody_46 : decode cX10_putBody 46 = .ok (.iload_n 1, 1) := by decide +kernel
theorem dX10_putBody_47 : decode cX10_putBody 47 = .ok (.bipush 7, 2) := by decide +kernel
theorem dX10_putBody_49 : decode cX10_putBody 49 = .ok (.iadd, 1) := by decide +kernel
theorem dX10_putBody_50 : decode cX10_putBody 50 = .ok (.iload 4, 2) := by decide +kernel
theorem dX10_putBody_52 : decode cX10_putBody 52 = .ok (.iconst (-1), 1) := by decide +kernel
theorem dX10_putBody_53 : decode cX10_putBody 53 = .ok (.if_icmp .ne 7, 3) := by decide +kernel
theorem dX10_putBody_56 : decode cX10_putBody 56 = .ok (.iconst 0, 1) := by decide +kernel
theorem dX10_putBody_57 : decode cX10_putBody 57 = .ok (.goto 8, 3) := by decide +kernel
theorem dX10_putBody_60 : decode cX10_putBody 60 = .ok (.aload_n 3, 1) := by decide +kernel
theorem dX10_putBody_61 : decode cX10_putBody 61 = .ok (.iload_n 2, 1) := by decide +kernel
theorem dX10_putBody_62 : decode cX10_putBody 62 = .ok (.invokevirtual 152, 3) := by decide +kernel
theorem dX10_putBody_65 : decode cX10_putBody 65 = .ok (.invokestatic 140, 3) := by decide +kernel
theorem dX10_putBody_68 : decode cX10_putBody 68 = .ok (.aload_n 0, 1) := by decide +kernel
theorem dX10_putBody_69 : decode cX10_putBody 69 = .ok (.getfield 15, 3) := by decide +kernel
theorem dX10_putBody_72 : decode cX10_putBody 72 = .ok (.iload_n 1, 1) := by decide +kernel
theorem dX10_putBody_73 : decode cX10_putBody 73 = .ok (.bipush 9, 2) := by decide +kernel
theorem dX10_putBody_75 : decode cX10_putBody 75 = .ok (.iadd, 1) := by decide +kernel
theorem dX10_putBody_76 : decode cX10_putBody 76 = .ok (.aload_n 0, 1) := by decide +kernel
theorem dX10_putBody_77 : decode cX10_putBody 77 = .ok (.getfield 75, 3) := by decide +kernel
theorem dX10_putBody_80 : decode cX10_putBody 80 = .ok (.i2b, 1) := by decide +kernel
theorem dX10_putBody_81 : decode cX10_putBody 81 = .ok (.bastore, 1) := by decide +kernel
theorem dX10_putBody_82 : decode cX10_putBody 82 = .ok (.aload_n 0, 1) := by decide +kernel
theorem dX10_putBody_83 : decode cX10_putBody 83 = .ok (.getfield 15, 3) := by decide +kernel
theorem dX10_putBody_86 : decode cX10_putBody 86 = .ok (.iload_n 1, 1) := by decide +kernel
theorem dX10_putBody_87 : decode cX10_putBody 87 = .ok (.bipush 10, 2) := by decide +kernel
theorem dX10_putBody_89 : decode cX10_putBody 89 = .ok (.iadd, 1) := by decide +kernel
theorem dX10_putBody_90 : decode cX10_putBody 90 = .ok (.aload_n 3, 1) := by decide +kernel
theorem dX10_putBody_91 : decode cX10_putBody 91 = .ok (.getfield 119, 3) := by decide +kernel
theorem dX10_putBody_94 : decode cX10_putBody 94 = .ok (.invokestatic 140, 3) := by decide +kernel
theorem dX10_putBody_97 : decode cX10_putBody 97 = .ok (.ldc 155, 2) := by decide +kernel
theorem dX10_putBody_99 : decode cX10_putBody 99 = .ok (.aload_n 0, 1) := by decide +kernel
theorem dX10_putBody_100 : decode cX10_putBody 100 = .ok (.getfield 42, 3) := by decide +kernel
theorem dX10_putBody_103 : decode cX10_putBody 103 = .ok (.imul, 1) := by decide +kernel
theorem dX10_putBody_104 : decode cX10_putBody 104 = .ok (.iload_n 2, 1) := by decide +kernel
theorem dX10_putBody_105 : decode cX10_putBody 105 = .ok (.iadd, 1) := by decide +kernel
theorem dX10_putBody_106 : decode cX10_putBody 106 = .ok (.istore 5, 2) := by decide +kernel
theorem dX10_putBody_108 : decode cX10_putBody 108 = .ok (.bipush 12, 2) := by decide +kernel
theorem dX10_putBody_110 : decode cX10_putBody 110 = .ok (.istore 6, 2) := by decide +kernel
theorem dX10_putBody_112 : decode cX10_putBody 112 = .ok (.iload 6, 2) := by decide +kernel
theorem dX10_putBody_114 : decode cX10_putBody 114 = .ok (.aload_n 0, 1) := by decide +kernel
theorem dX10_putBody_115 : decode cX10_putBody 115 = .ok (.getfield 103, 3) := by decide +kernel
theorem dX10_putBody_118 : decode cX10_putBody 118 = .ok (.if_icmp .ge 35, 3) := by decide +kernel
theorem dX10_putBody_121 : decode cX10_putBody 121 = .ok (.ldc 156, 2) := by decide +kernel
theorem dX10_putBody_123 : decode cX10_putBody 123 = .ok (.iload 5, 2) := by decide +kernel
theorem dX10_putBody_125 : decode cX10_putBody 125 = .ok (.imul, 1) := by decide +kernel
theorem dX10_putBody_126 : decode cX10_putBody 126 = .ok (.sipush 12345, 3) := by decide +kernel
theorem dX10_putBody_129 : decode cX10_putBody 129 = .ok (.iadd, 1) := by decide +kernel
theorem dX10_putBody_130 : decode cX10_putBody 130 = .ok (.istore 5, 2) := by decide +kernel
theorem dX10_putBody_132 : decode cX10_putBody 132 = .ok (.aload_n 0, 1) := by decide +kernel
theorem dX10_putBody_133 : decode cX10_putBody 133 = .ok (.getfield 15, 3) := by decide +kernel
theorem dX10_putBody_136 : decode cX10_putBody 136 = .ok (.iload_n 1, 1) := by decide +kernel
theorem dX10_putBody_137 : decode cX10_putBody 137 = .ok (.iload 6, 2) := by decide +kernel
theorem dX10_putBody_139 : decode cX10_putBody 139 = .ok (.iadd, 1) := by decide +kernel
theorem dX10_putBody_140 : decode cX10_putBody 140 = .ok (.iload 5, 2) := by decide +kernel
theorem dX10_putBody_142 : decode cX10_putBody 142 = .ok (.bipush 16, 2) := by decide +kernel
theorem dX10_putBody_144 : decode cX10_putBody 144 = .ok (.ishr, 1) := by decide +kernel
theorem dX10_putBody_145 : decode cX10_putBody 145 = .ok (.i2b, 1) := by decide +kernel
theorem dX10_putBody_146 : decode cX10_putBody 146 = .ok (.bastore, 1) := by decide +kernel
theorem dX10_putBody_147 : decode cX10_putBody 147 = .ok (.iinc 6 1, 3) := by decide +kernel
theorem dX10_putBody_150 : decode cX10_putBody 150 = .ok (.goto (-38), 3) := by decide +kernel
theorem dX10_putBody_153 : decode cX10_putBody 153 = .ok (.aload_n 0, 1) := by decide +kernel
theorem dX10_putBody_154 : decode cX10_putBody 154 = .ok (.getfield 15, 3) := by decide +kernel
theorem dX10_putBody_157 : decode cX10_putBody 157 = .ok (.iload_n 1, 1) := by decide +kernel
theorem dX10_putBody_158 : decode cX10_putBody 158 = .ok (.aload_n 0, 1) := by decide +kernel
theorem dX10_putBody_159 : decode cX10_putBody 159 = .ok (.getfield 15, 3) := by decide +kernel
theorem dX10_putBody_162 : decode cX10_putBody 162 = .ok (.iload_n 1, 1) := by decide +kernel
theorem dX10_putBody_163 : decode cX10_putBody 163 = .ok (.iconst 4, 1) := by decide +kernel
theorem dX10_putBody_164 : decode cX10_putBody 164 = .ok (.iadd, 1) := by decide +kernel
theorem dX10_putBody_165 : decode cX10_putBody 165 = .ok (.iload_n 1, 1) := by decide +kernel
theorem dX10_putBody_166 : decode cX10_putBody 166 = .ok (.aload_n 0, 1) := by decide +kernel
theorem dX10_putBody_167 : decode cX10_putBody 167 = .ok (.getfield 103, 3) := by decide +kernel
theorem dX10_putBody_170 : decode cX10_putBody 170 = .ok (.iadd, 1) := by decide +kernel
theorem dX10_putBody_171 : decode cX10_putBody 171 = .ok (.invokestatic 157, 3) := by decide +kernel
theorem dX10_putBody_174 : decode cX10_putBody 174 = .ok (.invokestatic 134, 3) := by decide +kernel
theorem dX10_putBody_177 : decode cX10_putBody 177 = .ok (.return_, 1) := by decide +kernel
theorem dX10_open_0 : decode cX10_open 0 = .ok (.iconst 0, 1) := by decide +kernel
theorem dX10_open_1 : decode cX10_open 1 = .ok (.iload_n 1, 1) := by decide +kernel
theorem dX10_open_2 : decode cX10_open 2 = .ok (.bipush 8, 2) := by decide +kernel
theorem dX10_open_4 : decode cX10_open 4 = .ok (.isub, 1) := by decide +kernel
theorem dX10_open_5 : decode cX10_open 5 = .ok (.iconst 1, 1) := by decide +kernel
theorem dX10_open_6 : decode cX10_open 6 = .ok (.iadd, 1) := by decide +kernel
theorem dX10_open_7 : decode cX10_open 7 = .ok (.invokestatic 53, 3) := by decide +kernel
theorem dX10_open_10 : decode cX10_open 10 = .ok (.istore_n 2, 1) := by decide +kernel
theorem dX10_open_11 : decode cX10_open 11 = .ok (.iload_n 2, 1) := by decide +kernel
theorem dX10_open_12 : decode cX10_open 12 = .ok (.iload_n 1, 1) := by decide +kernel
theorem dX10_open_13 : decode cX10_open 13 = .ok (.if_icmp .gt 25, 3) := by decide +kernel
theorem dX10_open_16 : decode cX10_open 16 = .ok (.aload_n 0, 1) := by decide +kernel
theorem dX10_open_17 : decode cX10_open 17 = .ok (.getfield 11, 3) := by decide +kernel
theorem dX10_open_20 : decode cX10_open 20 = .ok (.iload_n 2, 1) := by decide +kernel
theorem dX10_open_21 : decode cX10_open 21 = .ok (.iconst 5, 1) := by decide +kernel
theorem dX10_open_22 : decode cX10_open 22 = .ok (.imul, 1) := by decide +kernel
theorem dX10_open_23 : decode cX10_open 23 = .ok (.iconst 0, 1) := by decide +kernel
theorem dX10_open_24 : decode cX10_open 24 = .ok (.iadd, 1) := by decide +kernel
theorem dX10_open_25 : decode cX10_open 25 = .ok (.iaload, 1) := by decide +kernel
theorem dX10_open_26 : decode cX10_open 26 = .ok (.iconst 1, 1) := by decide +kernel
theorem dX10_open_27 : decode cX10_open 27 = .ok (.if_icmp .ne 5, 3) := by decide +kernel
theorem dX10_open_30 : decode cX10_open 30 = .ok (.iload_n 2, 1) := by decide +kernel
theorem dX10_open_31 : decode cX10_open 31 = .ok (.ireturn, 1) := by decide +kernel
theorem dX10_open_32 : decode cX10_open 32 = .ok (.iinc 2 1, 3) := by decide +kernel
theorem dX10_open_35 : decode cX10_open 35 = .ok (.goto (-24), 3) := by decide +kernel
theorem dX10_open_38 : decode cX10_open 38 = .ok (.iconst (-1), 1) := by decide +kernel
theorem dX10_open_39 : decode cX10_open 39 = .ok (.ireturn, 1) := by decide +kernel
theorem dX10_isBegun_0 : decode cX10_isBegun 0 = .ok (.aload_n 0, 1) := by decide +kernel
theorem dX10_isBegun_1 : decode cX10_isBegun 1 = .ok (.getfield 19, 3) := by decide +kernel
theorem dX10_isBegun_4 : decode cX10_isBegun 4 = .ok (.iload_n 1, 1) := by decide +kernel
theorem dX10_isBegun_5 : decode cX10_isBegun 5 = .ok (.bipush 8, 2) := by decide +kernel
theorem dX10_isBegun_7 : decode cX10_isBegun 7 = .ok (.irem, 1) := by decide +kernel
theorem dX10_isBegun_8 : decode cX10_isBegun 8 = .ok (.iaload, 1) := by decide +kernel
theorem dX10_isBegun_9 : decode cX10_isBegun 9 = .ok (.ifCond .le 7, 3) := by decide +kernel
theorem dX10_isBegun_12 : decode cX10_isBegun 12 = .ok (.iconst 1, 1) := by decide +kernel
theorem dX10_isBegun_13 : decode cX10_isBegun 13 = .ok (.goto 4, 3) := by decide +kernel
theorem dX10_isBegun_16 : decode cX10_isBegun 16 = .ok (.iconst 0, 1) := by decide +kernel
theorem dX10_isBegun_17 : decode cX10_isBegun 17 = .ok (.ireturn, 1) := by decide +kernel
theorem dX10_hasKey_0 : decode cX10_hasKey 0 = .ok (.aload_n 0, 1) := by decide +kernel
theorem dX10_hasKey_1 : decode cX10_hasKey 1 = .ok (.getfield 11, 3) := by decide +kernel
theorem dX10_hasKey_4 : decode cX10_hasKey 4 = .ok (.iload_n 1, 1) := by decide +kernel
theorem dX10_hasKey_5 : decode cX10_hasKey 5 = .ok (.iconst 5, 1) := by decide +kernel
theorem dX10_hasKey_6 : decode cX10_hasKey 6 = .ok (.imul, 1) := by decide +kernel
theorem dX10_hasKey_7 : decode cX10_hasKey 7 = .ok (.iconst 2, 1) := by decide +kernel
theorem dX10_hasKey_8 : decode cX10_hasKey 8 = .ok (.iadd, 1) := by decide +kernel
theorem dX10_hasKey_9 : decode cX10_hasKey 9 = .ok (.iaload, 1) := by decide +kernel
theorem dX10_hasKey_10 : decode cX10_hasKey 10 = .ok (.ifCond .le 7, 3) := by decide +kernel
theorem dX10_hasKey_13 : decode cX10_hasKey 13 = .ok (.iconst 1, 1) := by decide +kernel
theorem dX10_hasKey_14 : decode cX10_hasKey 14 = .ok (.goto 4, 3) := by decide +kernel
theorem dX10_hasKey_17 : decode cX10_hasKey 17 = .ok (.iconst 0, 1) := by decide +kernel
theorem dX10_hasKey_18 : decode cX10_hasKey 18 = .ok (.ireturn, 1) := by decide +kernel
theorem dX10_nextBytes_0 : decode cX10_nextBytes 0 = .ok (.iload_n 2, 1) := by decide +kernel
theorem dX10_nextBytes_1 : decode cX10_nextBytes 1 = .ok (.ifCond .eq 8, 3) := by decide +kernel
theorem dX10_nextBytes_4 : decode cX10_nextBytes 4 = .ok (.bipush 8, 2) := by decide +kernel
theorem dX10_nextBytes_6 : decode cX10_nextBytes 6 = .ok (.goto 24, 3) := by decide +kernel
theorem dX10_nextBytes_9 : decode cX10_nextBytes 9 = .ok (.aload_n 0, 1) := by decide +kernel
theorem dX10_nextBytes_10 : decode cX10_nextBytes 10 = .ok (.iload_n 1, 1) := by decide +kernel
theorem dX10_nextBytes_11 : decode cX10_nextBytes 11 = .ok (.invokevirtual 161, 3) := by decide +kernel
theorem dX10_nextBytes_14 : decode cX10_nextBytes 14 = .ok (.ifCond .ne 15, 3) := by decide +kernel
theorem dX10_nextBytes_17 : decode cX10_nextBytes 17 = .ok (.aload_n 0, 1) := by decide +kernel
theorem dX10_nextBytes_18 : decode cX10_nextBytes 18 = .ok (.iload_n 1, 1) := by decide +kernel
theorem dX10_nextBytes_19 : decode cX10_nextBytes 19 = .ok (.invokevirtual 165, 3) := by decide +kernel
theorem dX10_nextBytes_22 : decode cX10_nextBytes 22 = .ok (.ifCond .eq 7, 3) := by decide +kernel
theorem dX10_nextBytes_25 : decode cX10_nextBytes 25 = .ok (.iconst 2, 1) := by decide +kernel
theorem dX10_nextBytes_26 : decode cX10_nextBytes 26 = .ok (.goto 4, 3) := by decide +kernel
theorem dX10_nextBytes_29 : decode cX10_nextBytes 29 = .ok (.iconst 0, 1) := by decide +kernel
theorem dX10_nextBytes_30 : decode cX10_nextBytes 30 = .ok (.istore_n 3, 1) := by decide +kernel
theorem dX10_nextBytes_31 : decode cX10_nextBytes 31 = .ok (.sipush 184, 3) := by decide +kernel
theorem dX10_nextBytes_34 : decode cX10_nextBytes 34 = .ok (.iload_n 3, 1) := by decide +kernel
theorem dX10_nextBytes_35 : decode cX10_nextBytes 35 = .ok (.isub, 1) := by decide +kernel
theorem dX10_nextBytes_36 : decode cX10_nextBytes 36 = .ok (.bipush 14, 2) := by decide +kernel
theorem dX10_nextBytes_38 : decode cX10_nextBytes 38 = .ok (.aload_n 0, 1) := by decide +kernel
theorem dX10_nextBytes_39 : decode cX10_nextBytes 39 = .ok (.getfield 11, 3) := by decide +kernel
theorem dX10_nextBytes_42 : decode cX10_nextBytes 42 = .ok (.iload_n 1, 1) := by decide +kernel
theorem dX10_nextBytes_43 : decode cX10_nextBytes 43 = .ok (.iconst 5, 1) := by decide +kernel
theorem dX10_nextBytes_44 : decode cX10_nextBytes 44 = .ok (.imul, 1) := by decide +kernel
theorem dX10_nextBytes_45 : decode cX10_nextBytes 45 = .ok (.iconst 1, 1) := by decide +kernel
theorem dX10_nextBytes_46 : decode cX10_nextBytes 46 = .ok (.iadd, 1) := by decide +kernel
theorem dX10_nextBytes_47 : decode cX10_nextBytes 47 = .ok (.iaload, 1) := by decide +kernel
theorem dX10_nextBytes_48 : decode cX10_nextBytes 48 = .ok (.iadd, 1) := by decide +kernel
theorem dX10_nextBytes_49 : decode cX10_nextBytes 49 = .ok (.aload_n 0, 1) := by decide +kernel
theorem dX10_nextBytes_50 : decode cX10_nextBytes 50 = .ok (.getfield 19, 3) := by decide +kernel
theorem dX10_nextBytes_53 : decode cX10_nextBytes 53 = .ok (.iload_n 1, 1) := by decide +kernel
theorem dX10_nextBytes_54 : decode cX10_nextBytes 54 = .ok (.bipush 8, 2) := by decide +kernel
theorem dX10_nextBytes_56 : decode cX10_nextBytes 56 = .ok (.irem, 1) := by decide +kernel
theorem dX10_nextBytes_57 : decode cX10_nextBytes 57 = .ok (.iaload, 1) := by decide +kernel
theorem dX10_nextBytes_58 : decode cX10_nextBytes 58 = .ok (.isub, 1) := by decide +kernel
theorem dX10_nextBytes_59 : decode cX10_nextBytes 59 = .ok (.invokestatic 168, 3) := by decide +kernel
theorem dX10_nextBytes_62 : decode cX10_nextBytes 62 = .ok (.istore 4, 2) := by decide +kernel
theorem dX10_nextBytes_64 : decode cX10_nextBytes 64 = .ok (.aload_n 0, 1) := by decide +kernel
theorem dX10_nextBytes_65 : decode cX10_nextBytes 65 = .ok (.getfield 65, 3) := by decide +kernel
theorem dX10_nextBytes_68 : decode cX10_nextBytes 68 = .ok (.iload 4, 2) := by decide +kernel
theorem dX10_nextBytes_70 : decode cX10_nextBytes 70 = .ok (.iadd, 1) := by decide +kernel
theorem dX10_nextBytes_71 : decode cX10_nextBytes 71 = .ok (.aload_n 0, 1) := by decide +kernel
theorem dX10_nextBytes_72 : decode cX10_nextBytes 72 = .ok (.getfield 32, 3) := by decide +kernel
theorem dX10_nextBytes_75 : decode cX10_nextBytes 75 = .ok (.if_icmp .gt 8, 3) := by decide +kernel
theorem dX10_nextBytes_78 : decode cX10_nextBytes 78 = .ok (.iload 4, 2) := by decide +kernel
theorem dX10_nextBytes_80 : decode cX10_nextBytes 80 = .ok (.goto 4, 3) := by decide +kernel
theorem dX10_nextBytes_83 : decode cX10_nextBytes 83 = .ok (.iconst 0, 1) := by decide +kernel
theorem dX10_nextBytes_84 : decode cX10_nextBytes 84 = .ok (.ireturn, 1) := by decide +kernel
theorem dX10_copyNext_0 : decode cX10_copyNext 0 = .ok (.iload_n 1, 1) := by decide +kernel
theorem dX10_copyNext_1 : decode cX10_copyNext 1 = .ok (.bipush 8, 2) := by decide +kernel
theorem dX10_copyNext_3 : decode cX10_copyNext 3 = .ok (.irem, 1) := by decide +kernel
theorem dX10_copyNext_4 : decode cX10_copyNext 4 = .ok (.istore 6, 2) := by decide +kernel
theorem dX10_copyNext_6 : decode cX10_copyNext 6 = .ok (.aload_n 0, 1) := by decide +kernel
theorem dX10_copyNext_7 : decode cX10_copyNext 7 = .ok (.getfield 15, 3) := by decide +kernel
theorem dX10_copyNext_10 : decode cX10_copyNext 10 = .ok (.iload 6, 2) := by decide +kernel
theorem dX10_copyNext_12 : decode cX10_copyNext 12 = .ok (.sipush 3014, 3) := by decide +kernel
theorem dX10_copyNext_15 : decode cX10_copyNext 15 = .ok (.imul, 1) := by decide +kernel
theorem dX10_copyNext_16 : decode cX10_copyNext 16 = .ok (.aload_n 0, 1) := by decide +kernel
theorem dX10_copyNext_17 : decode cX10_copyNext 17 = .ok (.getfield 19, 3) := by decide +kernel
theorem dX10_copyNext_20 : decode cX10_copyNext 20 = .ok (.iload 6, 2) := by decide +kernel
theorem dX10_copyNext_22 : decode cX10_copyNext 22 = .ok (.iaload, 1) := by decide +kernel
theorem dX10_copyNext_23 : decode cX10_copyNext 23 = .ok (.iadd, 1) := by decide +kernel
theorem dX10_copyNext_24 : decode cX10_copyNext 24 = .ok (.aload_n 3, 1) := by decide +kernel
theorem dX10_copyNext_25 : decode cX10_copyNext 25 = .ok (.iload 4, 2) := by decide +kernel
theorem dX10_copyNext_27 : decode cX10_copyNext 27 = .ok (.iload_n 2, 1) := by decide +kernel
theorem dX10_copyNext_28 : decode cX10_copyNext 28 = .ok (.invokestatic 170, 3) := by decide +kernel
theorem dX10_copyNext_31 : decode cX10_copyNext 31 = .ok (.aload_n 0, 1) := by decide +kernel
theorem dX10_copyNext_32 : decode cX10_copyNext 32 = .ok (.getfield 19, 3) := by decide +kernel
theorem dX10_copyNext_35 : decode cX10_copyNext 35 = .ok (.iload 6, 2) := by decide +kernel
theorem dX10_copyNext_37 : decode cX10_copyNext 37 = .ok (.dup2, 1) := by decide +kernel
theorem dX10_copyNext_38 : decode cX10_copyNext 38 = .ok (.iaload, 1) := by decide +kernel
theorem dX10_copyNext_39 : decode cX10_copyNext 39 = .ok (.iload_n 2, 1) := by decide +kernel
theorem dX10_copyNext_40 : decode cX10_copyNext 40 = .ok (.iadd, 1) := by decide +kernel
theorem dX10_copyNext_41 : decode cX10_copyNext 41 = .ok (.iastore, 1) := by decide +kernel
theorem dX10_copyNext_42 : decode cX10_copyNext 42 = .ok (.aload_n 0, 1) := by decide +kernel
theorem dX10_copyNext_43 : decode cX10_copyNext 43 = .ok (.dup, 1) := by decide +kernel
theorem dX10_copyNext_44 : decode cX10_copyNext 44 = .ok (.getfield 65, 3) := by decide +kernel
theorem dX10_copyNext_47 : decode cX10_copyNext 47 = .ok (.iload_n 2, 1) := by decide +kernel
theorem dX10_copyNext_48 : decode cX10_copyNext 48 = .ok (.iadd, 1) := by decide +kernel
theorem dX10_copyNext_49 : decode cX10_copyNext 49 = .ok (.putfield 65, 3) := by decide +kernel
theorem dX10_copyNext_52 : decode cX10_copyNext 52 = .ok (.aload_n 0, 1) := by decide +kernel
theorem dX10_copyNext_53 : decode cX10_copyNext 53 = .ok (.getfield 19, 3) := by decide +kernel
theorem dX10_copyNext_56 : decode cX10_copyNext 56 = .ok (.iload 6, 2) := by decide +kernel
theorem dX10_copyNext_58 : decode cX10_copyNext 58 = .ok (.iaload, 1) := by decide +kernel
theorem dX10_copyNext_59 : decode cX10_copyNext 59 = .ok (.bipush 14, 2) := by decide +kernel
theorem dX10_copyNext_61 : decode cX10_copyNext 61 = .ok (.aload_n 0, 1) := by decide +kernel
theorem dX10_copyNext_62 : decode cX10_copyNext 62 = .ok (.getfield 11, 3) := by decide +kernel
theorem dX10_copyNext_65 : decode cX10_copyNext 65 = .ok (.iload_n 1, 1) := by decide +kernel
theorem dX10_copyNext_66 : decode cX10_copyNext 66 = .ok (.iconst 5, 1) := by decide +kernel
theorem dX10_copyNext_67 : decode cX10_copyNext 67 = .ok (.imul, 1) := by decide +kernel
theorem dX10_copyNext_68 : decode cX10_copyNext 68 = .ok (.iconst 1, 1) := by decide +kernel
theorem dX10_copyNext_69 : decode cX10_copyNext 69 = .ok (.iadd, 1) := by decide +kernel
theorem dX10_copyNext_70 : decode cX10_copyNext 70 = .ok (.iaload, 1) := by decide +kernel
theorem dX10_copyNext_71 : decode cX10_copyNext 71 = .ok (.iadd, 1) := by decide +kernel
theorem dX10_copyNext_72 : decode cX10_copyNext 72 = .ok (.if_icmp .ge 4, 3) := by decide +kernel
theorem dX10_copyNext_75 : decode cX10_copyNext 75 = .ok (.return_, 1) := by decide +kernel
theorem dX10_copyNext_76 : decode cX10_copyNext 76 = .ok (.aload_n 0, 1) := by decide +kernel
theorem dX10_copyNext_77 : decode cX10_copyNext 77 = .ok (.getfield 11, 3) := by decide +kernel
theorem dX10_copyNext_80 : decode cX10_copyNext 80 = .ok (.iload_n 1, 1) := by decide +kernel
theorem dX10_copyNext_81 : decode cX10_copyNext 81 = .ok (.iconst 5, 1) := by decide +kernel
theorem dX10_copyNext_82 : decode cX10_copyNext 82 = .ok (.imul, 1) := by decide +kernel
theorem dX10_copyNext_83 : decode cX10_copyNext 83 = .ok (.iconst 0, 1) := by decide +kernel
theorem dX10_copyNext_84 : decode cX10_copyNext 84 = .ok (.iadd, 1) := by decide +kernel
theorem dX10_copyNext_85 : decode cX10_copyNext 85 = .ok (.iconst 2, 1) := by decide +kernel
theorem dX10_copyNext_86 : decode cX10_copyNext 86 = .ok (.iastore, 1) := by decide +kernel
theorem dX10_copyNext_87 : decode cX10_copyNext 87 = .ok (.aload_n 0, 1) := by decide +kernel
theorem dX10_copyNext_88 : decode cX10_copyNext 88 = .ok (.getfield 11, 3) := by decide +kernel
theorem dX10_copyNext_91 : decode cX10_copyNext 91 = .ok (.iload_n 1, 1) := by decide +kernel
theorem dX10_copyNext_92 : decode cX10_copyNext 92 = .ok (.iconst 5, 1) := by decide +kernel
theorem dX10_copyNext_93 : decode cX10_copyNext 93 = .ok (.imul, 1) := by decide +kernel
theorem dX10_copyNext_94 : decode cX10_copyNext 94 = .ok (.iconst 4, 1) := by decide +kernel
theorem dX10_copyNext_95 : decode cX10_copyNext 95 = .ok (.iadd, 1) := by decide +kernel
theorem dX10_copyNext_96 : decode cX10_copyNext 96 = .ok (.iload 5, 2) := by decide +kernel
theorem dX10_copyNext_98 : decode cX10_copyNext 98 = .ok (.iastore, 1) := by decide +kernel
theorem dX10_copyNext_99 : decode cX10_copyNext 99 = .ok (.return_, 1) := by decide +kernel
theorem dX11_init_0 : decode cX11_init 0 = .ok (.aload_n 0, 1) := by decide +kernel
theorem dX11_init_1 : decode cX11_init 1 = .ok (.invokespecial 1, 3) := by decide +kernel
theorem dX11_init_4 : decode cX11_init 4 = .ok (.aload_n 0, 1) := by decide +kernel
theorem dX11_init_5 : decode cX11_init 5 = .ok (.new 7, 3) := by decide +kernel
theorem dX11_init_8 : decode cX11_init 8 = .ok (.dup, 1) := by decide +kernel
theorem dX11_init_9 : decode cX11_init 9 = .ok (.invokespecial 9, 3) := by decide +kernel
theorem dX11_init_12 : decode cX11_init 12 = .ok (.putfield 10, 3) := by decide +kernel
theorem dX11_init_15 : decode cX11_init 15 = .ok (.aload_n 0, 1) := by decide +kernel
theorem dX11_init_16 : decode cX11_init 16 = .ok (.iconst 3, 1) := by decide +kernel
theorem dX11_init_17 : decode cX11_init 17 = .ok (.anewarray 16, 3) := by decide +kernel
theorem dX11_init_20 : decode cX11_init 20 = .ok (.putfield 18, 3) := by decide +kernel
theorem dX11_init_23 : decode cX11_init 23 = .ok (.aload_n 0, 1) := by decide +kernel
theorem dX11_init_24 : decode cX11_init 24 = .ok (.iconst 3, 1) := by decide +kernel
theorem dX11_init_25 : decode cX11_init 25 = .ok (.anewarray 22, 3) := by decide +kernel
theorem dX11_init_28 : decode cX11_init 28 = .ok (.putfield 24, 3) := by decide +kernel
theorem dX11_init_31 : decode cX11_init 31 = .ok (.aload_n 0, 1) := by decide +kernel
theorem dX11_init_32 : decode cX11_init 32 = .ok (.iconst 3, 1) := by decide +kernel
theorem dX11_init_33 : decode cX11_init 33 = .ok (.anewarray 28, 3) := by decide +kernel
theorem dX11_init_36 : decode cX11_init 36 = .ok (.putfield 30, 3) := by decide +kernel
theorem dX11_init_39 : decode cX11_init 39 = .ok (.aload_n 0, 1) := by decide +kernel
theorem dX11_init_40 : decode cX11_init 40 = .ok (.new 34, 3) := by decide +kernel
theorem dX11_init_43 : decode cX11_init 43 = .ok (.dup, 1) := by decide +kernel
theorem dX11_init_44 : decode cX11_init 44 = .ok (.invokespecial 36, 3) := by decide +kernel
theorem dX11_init_47 : decode cX11_init 47 = .ok (.putfield 37, 3) := by decide +kernel
theorem dX11_init_50 : decode cX11_init 50 = .ok (.aload_n 0, 1) := by decide +kernel
theorem dX11_init_51 : decode cX11_init 51 = .ok (.sipush 2000, 3) := by decide +kernel
theorem dX11_init_54 : decode cX11_init 54 = .ok (.putfield 41, 3) := by decide +kernel
theorem dX11_init_57 : decode cX11_init 57 = .ok (.aload_n 0, 1) := by decide +kernel
theorem dX11_init_58 : decode cX11_init 58 = .ok (.bipush 12, 2) := by decide +kernel
theorem dX11_init_60 : decode cX11_init 60 = .ok (.bipush 40, 2) := by decide +kernel
theorem dX11_init_62 : decode cX11_init 62 = .ok (.iload_n 1, 1) := by decide +kernel
theorem dX11_init_63 : decode cX11_init 63 = .ok (.invokestatic 45, 3) := by decide +kernel
theorem dX11_init_66 : decode cX11_init 66 = .ok (.invokestatic 51, 3) := by decide +kernel
theorem dX11_init_69 : decode cX11_init 69 = .ok (.putfield 54, 3) := by decide +kernel
theorem dX11_init_72 : decode cX11_init 72 = .ok (.ldc2_w 57, 3) := by decide +kernel
theorem dX11_init_75 : decode cX11_init 75 = .ok (.iload_n 2, 1) := by decide +kernel
theorem dX11_init_76 : decode cX11_init 76 = .ok (.i2l, 1) := by decide +kernel
theorem dX11_init_77 : decode cX11_init 77 = .ok (.ldc2_w 59, 3) := by decide +kernel
theorem dX11_init_80 : decode cX11_init 80 = .ok (.land, 1) := by decide +kernel
theorem dX11_init_81 : decode cX11_init 81 = .ok (.lmul, 1) := by decide +kernel
theorem dX11_init_82 : decode cX11_init 82 = .ok (.lstore_n 3, 1) := by decide +kernel
theorem dX11_init_83 : decode cX11_init 83 = .ok (.iconst 0, 1) := by decide +kernel
theorem dX11_init_84 : decode cX11_init 84 = .ok (.istore 5, 2) := by decide +kernel
theorem dX11_init_86 : decode cX11_init 86 = .ok (.iload 5, 2) := by decide +kernel
theorem dX11_init_88 : decode cX11_init 88 = .ok (.iconst 3, 1) := by decide +kernel
theorem dX11_init_89 : decode cX11_init 89 = .ok (.if_icmp .ge 59, 3) := by decide +kernel
theorem dX11_init_92 : decode cX11_init 92 = .ok (.aload_n 0, 1) := by decide +kernel
theorem dX11_init_93 : decode cX11_init 93 = .ok (.getfield 18, 3) := by decide +kernel
theorem dX11_init_96 : decode cX11_init 96 = .ok (.iload 5, 2) := by decide +kernel
theorem dX11_init_98 : decode cX11_init 98 = .ok (.new 16, 3) := by decide +kernel
theorem dX11_init_101 : decode cX11_init 101 = .ok (.dup, 1) := by decide +kernel
theorem dX11_init_102 : decode cX11_init 102 = .ok (.aload_n 0, 1) := by decide +kernel
theorem dX11_init_103 : decode cX11_init 103 = .ok (.getfield 10, 3) := by decide +kernel
theorem dX11_init_106 : decode cX11_init 106 = .ok (.invokespecial 61, 3) := by decide +kernel
theorem dX11_init_109 : decode cX11_init 109 = .ok (.aastore, 1) := by decide +kernel
theorem dX11_init_110 : decode cX11_init 110 = .ok (.aload_n 0, 1) := by decide +kernel
theorem dX11_init_111 : decode cX11_init 111 = .ok (.getfield 24, 3) := by decide +kernel
theorem dX11_init_114 : decode cX11_init 114 = .ok (.iload 5, 2) := by decide +kernel
theorem dX11_init_116 : decode cX11_init 116 = .ok (.new 22, 3) := by decide +kernel
theorem dX11_init_119 : decode cX11_init 119 = .ok (.dup, 1) := by decide +kernel
theorem dX11_init_120 : decode cX11_init 120 = .ok (.iload 5, 2) := by decide +kernel
theorem dX11_init_122 : decode cX11_init 122 = .ok (.lload_n 3, 1) := by decide +kernel
theorem dX11_init_123 : decode cX11_init 123 = .ok (.invokespecial 64, 3) := by decide +kernel
theorem dX11_init_126 : decode cX11_init 126 = .ok (.aastore, 1) := by decide +kernel
theorem dX11_init_127 : decode cX11_init 127 = .ok (.aload_n 0, 1) := by decide +kernel
theorem dX11_init_128 : decode cX11_init 128 = .ok (.getfield 30, 3) := by decide +kernel
theorem dX11_init_131 : decode cX11_init 131 = .ok (.iload 5, 2) := by decide +kernel
theorem dX11_init_133 : decode cX11_init 133 = .ok (.new 28, 3) := by decide +kernel
theorem dX11_init_136 : decode cX11_init 136 = .ok (.dup, 1) := by decide +kernel
theorem dX11_init_137 : decode cX11_init 137 = .ok (.lload_n 3, 1) := by decide +kernel
theorem dX11_init_138 : decode cX11_init 138 = .ok (.invokespecial 67, 3) := by decide +kernel
theorem dX11_init_141 : decode cX11_init 141 = .ok (.aastore, 1) := by decide +kernel
theorem dX11_init_142 : decode cX11_init 142 = .ok (.iinc 5 1, 3) := by decide +kernel
theorem dX11_init_145 : decode cX11_init 145 = .ok (.goto (-59), 3) := by decide +kernel
theorem dX11_init_148 : decode cX11_init 148 = .ok (.aload_n 0, 1) := by decide +kernel
theorem dX11_init_149 : decode cX11_init 149 = .ok (.new 70, 3) := by decide +kernel
theorem dX11_init_152 : decode cX11_init 152 = .ok (.dup, 1) := by decide +kernel
theorem dX11_init_153 : decode cX11_init 153 = .ok (.aload_n 0, 1) := by decide +kernel
theorem dX11_init_154 : decode cX11_init 154 = .ok (.getfield 54, 3) := by decide +kernel
theorem dX11_init_157 : decode cX11_init 157 = .ok (.lload_n 3, 1) := by decide +kernel
theorem dX11_init_158 : decode cX11_init 158 = .ok (.aload_n 0, 1) := by decide +kernel
theorem dX11_init_159 : decode cX11_init 159 = .ok (.getfield 24, 3) := by decide +kernel
theorem dX11_init_162 : decode cX11_init 162 = .ok (.invokespecial 72, 3) := by decide +kernel
theorem dX11_init_165 : decode cX11_init 165 = .ok (.putfield 75, 3) := by decide +kernel
theorem dX11_init_168 : decode cX11_init 168 = .ok (.aload_n 0, 1) := by decide +kernel
theorem dX11_init_169 : decode cX11_init 169 = .ok (.new 79, 3) := by decide +kernel
theorem dX11_init_172 : decode cX11_init 172 = .ok (.dup, 1) := by decide +kernel
theorem dX11_init_173 : decode cX11_init 173 = .ok (.aload_n 0, 1) := by decide +kernel
theorem dX11_init_174 : decode cX11_init 174 = .ok (.getfield 75, 3) := by decide +kernel
theorem dX11_init_177 : decode cX11_init 177 = .ok (.getfield 81, 3) := by decide +kernel
theorem dX11_init_180 : decode cX11_init 180 = .ok (.invokespecial 85, 3) := by decide +kernel
theorem dX11_init_183 : decode cX11_init 183 = .ok (.putfield 88, 3) := by decide +kernel
theorem dX11_init_186 : decode cX11_init 186 = .ok (.aload_n 0, 1) := by decide +kernel
theorem dX11_init_187 : decode cX11_init 187 = .ok (.new 92, 3) := by decide +kernel
theorem dX11_init_190 : decode cX11_init 190 = .ok (.dup, 1) := by decide +kernel
theorem dX11_init_191 : decode cX11_init 191 = .ok (.aload_n 0, 1) := by decide +kernel
theorem dX11_init_192 : decode cX11_init 192 = .ok (.getfield 54, 3) := by decide +kernel
theorem dX11_init_195 : decode cX11_init 195 = .ok (.lload_n 3, 1) := by decide +kernel
theorem dX11_init_196 : decode cX11_init 196 = .ok (.aload_n 0, 1) := by decide +kernel
theorem dX11_init_197 : decode cX11_init 197 = .ok (.getfield 30, 3) := by decide +kernel
theorem dX11_init_200 : decode cX11_init 200 = .ok (.aload_n 0, 1) := by decide +kernel
theorem dX11_init_201 : decode cX11_init 201 = .ok (.getfield 88, 3) := by decide +kernel
theorem dX11_init_204 : decode cX11_init 204 = .ok (.getfield 94, 3) := by decide +kernel
theorem dX11_init_207 : decode cX11_init 207 = .ok (.invokespecial 97, 3) := by decide +kernel
theorem dX11_init_210 : decode cX11_init 210 = .ok (.putfield 100, 3) := by decide +kernel
theorem dX11_init_213 : decode cX11_init 213 = .ok (.return_, 1) := by decide +kernel
theorem dX11_clip_0 : decode cX11_clip 0 = .ok (.iload_n 1, 1) := by decide +kernel
theorem dX11_clip_1 : decode cX11_clip 1 = .ok (.iconst 1, 1) := by decide +kernel
theorem dX11_clip_2 : decode cX11_clip 2 = .ok (.sipush 1000, 3) := by decide +kernel
theorem dX11_clip_5 : decode cX11_clip 5 = .ok (.invokestatic 104, 3) := by decide +kernel
theorem dX11_clip_8 : decode cX11_clip 8 = .ok (.ifCond .eq 13, 3) := by decide +kernel
theorem dX11_clip_11 : decode cX11_clip 11 = .ok (.iload_n 2, 1) := by decide +kernel
theorem dX11_clip_12 : decode cX11_clip 12 = .ok (.iconst 1, 1) := by decide +kernel
theorem dX11_clip_13 : decode cX11_clip 13 = .ok (.bipush 100, 2) := by decide +kernel
theorem dX11_clip_15 : decode cX11_clip 15 = .ok (.invokestatic 104, 3) := by decide +kernel
theorem dX11_clip_18 : decode cX11_clip 18 = .ok (.ifCond .ne 6, 3) := by decide +kernel
theorem dX11_clip_21 : decode cX11_clip 21 = .ok (.bipush (-2), 2) := by decide +kernel
theorem dX11_clip_23 : decode cX11_clip 23 = .ok (.ireturn, 1) := by decide +kernel
theorem dX11_clip_24 : decode cX11_clip 24 = .ok (.aload_n 0, 1) := by decide +kernel
theorem dX11_clip_25 : decode cX11_clip 25 = .ok (.getfield 10, 3) := by decide +kernel
theorem dX11_clip_28 : decode cX11_clip 28 = .ok (.iload_n 1, 1) := by decide +kernel
theorem dX11_clip_29 : decode cX11_clip 29 = .ok (.iload_n 2, 1) := by decide +kernel
theorem dX11_clip_30 : decode cX11_clip 30 = .ok (.invokevirtual 108, 3) := by decide +kernel
theorem dX11_clip_33 : decode cX11_clip 33 = .ok (.ireturn, 1) := by decide +kernel
theorem dX11_fill_0 : decode cX11_fill 0 = .ok (.iload_n 1, 1) := by decide +kernel
theorem dX11_fill_1 : decode cX11_fill 1 = .ok (.iconst 0, 1) := by decide +kernel
theorem dX11_fill_2 : decode cX11_fill 2 = .ok (.aload_n 0, 1) := by decide +kernel
theorem dX11_fill_3 : decode cX11_fill 3 = .ok (.getfield 10, 3) := by decide +kernel
theorem dX11_fill_6 : decode cX11_fill 6 = .ok (.getfield 111, 3) := by decide +kernel
theorem dX11_fill_9 : decode cX11_fill 9 = .ok (.iconst 1, 1) := by decide +kernel
theorem dX11_fill_10 : decode cX11_fill 10 = .ok (.isub, 1) := by decide +kernel
theorem dX11_fill_11 : decode cX11_fill 11 = .ok (.invokestatic 104, 3) := by decide +kernel
theorem dX11_fill_14 : decode cX11_fill 14 = .ok (.ifCond .ne 6, 3) := by decide +kernel
theorem dX11_fill_17 : decode cX11_fill 17 = .ok (.bipush (-2), 2) := by decide +kernel
theorem dX11_fill_19 : decode cX11_fill 19 = .ok (.ireturn, 1) := by decide +kernel
theorem dX11_fill_20 : decode cX11_fill 20 = .ok (.aload_n 0, 1) := by decide +kernel
theorem dX11_fill_21 : decode cX11_fill 21 = .ok (.getfield 10, 3) := by decide +kernel
theorem dX11_fill_24 : decode cX11_fill 24 = .ok (.iload_n 1, 1) := by decide +kernel
theorem dX11_fill_25 : decode cX11_fill 25 = .ok (.invokevirtual 114, 3) := by decide +kernel
theorem dX11_fill_28 : decode cX11_fill 28 = .ok (.ireturn, 1) := by decide +kernel
theorem dX11_local_0 : decode cX11_local 0 = .ok (.iload_n 1, 1) := by decide +kernel
theorem dX11_local_1 : decode cX11_local 1 = .ok (.iconst 1, 1) := by decide +kernel
theorem dX11_local_2 : decode cX11_local 2 = .ok (.sipush 1000, 3) := by decide +kernel
theorem dX11_local_5 : decode cX11_local 5 = .ok (.invokestatic 104, 3) := by decide +kernel
theorem dX11_local_8 : decode cX11_local 8 = .ok (.ifCond .ne 6, 3) := by decide +kernel
theorem dX11_local_11 : decode cX11_local 11 = .ok (.bipush (-2), 2) := by decide +kernel
theorem dX11_local_13 : decode cX11_local 13 = .ok (.ireturn, 1) := by decide +kernel
theorem dX11_local_14 : decode cX11_local 14 = .ok (.aload_n 0, 1) := by decide +kernel
theorem dX11_local_15 : decode cX11_local 15 = .ok (.getfield 37, 3) := by decide +kernel
theorem dX11_local_18 : decode cX11_local 18 = .ok (.getfield 118, 3) := by decide +kernel
theorem dX11_local_21 : decode cX11_local 21 = .ok (.iload_n 1, 1) := by decide +kernel
theorem dX11_local_22 : decode cX11_local 22 = .ok (.invokevirtual 122, 3) := by decide +kernel
theorem dX11_local_25 : decode cX11_local 25 = .ok (.ifCond .eq 16, 3) := by decide +kernel
theorem dX11_local_28 : decode cX11_local 28 = .ok (.aload_n 0, 1) := by decide +kernel
theorem dX11_local_29 : decode cX11_local 29 = .ok (.getfield 37, 3) := by decide +kernel
theorem dX11_local_32 : decode cX11_local 32 = .ok (.getfield 118, 3) := by decide +kernel
theorem dX11_local_35 : decode cX11_local 35 = .ok (.getfield 127, 3) := by decide +kernel
theorem dX11_local_38 : decode cX11_local 38 = .ok (.goto 5, 3) := by decide +kernel
theorem dX11_local_41 : decode cX11_local 41 = .ok (.bipush (-3), 2) := by decide +kernel
theorem dX11_local_43 : decode cX11_local 43 = .ok (.ireturn, 1) := by decide +kernel
theorem dX11_event_0 : decode cX11_event 0 = .ok (.iload_n 1, 1) := by decide +kernel
theorem dX11_event_1 : decode cX11_event 1 = .ok (.invokestatic 128, 3) := by decide +kernel
theorem dX11_event_4 : decode cX11_event 4 = .ok (.ifCond .eq 12, 3) := by decide +kernel
theorem dX11_event_7 : decode cX11_event 7 = .ok (.iload_n 2, 1) := by decide +kernel
theorem dX11_event_8 : decode cX11_event 8 = .ok (.iconst 0, 1) := by decide +kernel
theorem dX11_event_9 : decode cX11_event 9 = .ok (.iconst 3, 1) := by decide +kernel
theorem dX11_event_10 : decode cX11_event 10 = .ok (.invokestatic 104, 3) := by decide +kernel
theorem dX11_event_13 : decode cX11_event 13 = .ok (.ifCond .ne 6, 3) := by decide +kernel
theorem dX11_event_16 : decode cX11_event 16 = .ok (.bipush (-2), 2) := by decide +kernel
theorem dX11_event_18 : decode cX11_event 18 = .ok (.ireturn, 1) := by decide +kernel
theorem dX11_event_19 : decode cX11_event 19 = .ok (.iload 4, 2) := by decide +kernel
theorem dX11_event_21 : decode cX11_event 21 = .ok (.iconst 0, 1) := by decide +kernel
theorem dX11_event_22 : decode cX11_event 22 = .ok (.aload_n 0, 1) := by decide +kernel
theorem dX11_event_23 : decode cX11_event 23 = .ok (.getfield 10, 3) := by decide +kernel
theorem dX11_event_26 : decode cX11_event 26 = .ok (.getfield 111, 3) := by decide +kernel
theorem dX11_event_29 : decode cX11_event 29 = .ok (.iconst 1, 1) := by decide +kernel
theorem dX11_event_30 : decode cX11_event 30 = .ok (.isub, 1) := by decide +kernel
theorem dX11_event_31 : decode cX11_event 31 = .ok (.invokestatic 104, 3) := by decide +kernel
theorem dX11_event_34 : decode cX11_event 34 = .ok (.ifCond .eq 15, 3) := by decide +kernel
theorem dX11_event_37 : decode cX11_event 37 = .ok (.iload 5, 2) := by decide +kernel
theorem dX11_event_39 : decode cX11_event 39 = .ok (.iconst 1, 1) := by decide +kernel
theorem dX11_event_40 : decode cX11_event 40 = .ok (.sipush 1000, 3) := by decide +kernel
theorem dX11_event_43 : decode cX11_event 43 = .ok (.invokestatic 104, 3) := by decide +kernel
theorem dX11_event_46 : decode cX11_event 46 = .ok (.ifCond .ne 6, 3) := by decide +kernel
theorem dX11_event_49 : decode cX11_event 49 = .ok (.bipush (-2), 2) := by decide +kernel
theorem dX11_event_51 : decode cX11_event 51 = .ok (.ireturn, 1) := by decide +kernel
theorem dX11_event_52 : decode cX11_event 52 = .ok (.aload_n 0, 1) := by decide +kernel
theorem dX11_event_53 : decode cX11_event 53 = .ok (.getfield 18, 3) := by decide +kernel
theorem dX11_event_56 : decode cX11_event 56 = .ok (.iload_n 1, 1) := by decide +kernel
theorem dX11_event_57 : decode cX11_event 57 = .ok (.aaload, 1) := by decide +kernel
theorem dX11_event_58 : decode cX11_event 58 = .ok (.astore 6, 2) := by decide +kernel
theorem dX11_event_60 : decode cX11_event 60 = .ok (.iload_n 2, 1) := by decide +kernel
theorem dX11_event_61 : decode cX11_event 61 = .ok (.iconst 1, 1) := by decide +kernel
theorem dX11_event_62 : decode cX11_event 62 = .ok (.if_icmp .ne 7, 3) := by decide +kernel
theorem dX11_event_65 : decode cX11_event 65 = .ok (.iconst 1, 1) := by decide +kernel
theorem dX11_event_66 : decode cX11_event 66 = .ok (.goto 4, 3) := by decide +kernel
theorem dX11_event_69 : decode cX11_event 69 = .ok (.iconst 0, 1) := by decide +kernel
theorem dX11_event_70 : decode cX11_event 70 = .ok (.istore 7, 2) := by decide +kernel
theorem dX11_event_72 : decode cX11_event 72 = .ok (.iload 7, 2) := by decide +kernel
theorem dX11_event_74 : decode cX11_event 74 = .ok (.ifCond .eq 30, 3) := by decide +kernel
theorem dX11_event_77 : decode cX11_event 77 = .ok (.iload_n 3, 1) := by decide +kernel
theorem dX11_event_78 : decode cX11_event 78 = .ok (.aload_n 0, 1) := by decide +kernel
theorem dX11_event_79 : decode cX11_event 79 = .ok (.getfield 131, 3) := by decide +kernel
theorem dX11_event_82 : decode cX11_event 82 = .ok (.aload 6, 2) := by decide +kernel
theorem dX11_event_84 : decode cX11_event 84 = .ok (.getfield 134, 3) := by decide +kernel
theorem dX11_event_87 : decode cX11_event 87 = .ok (.iconst 1, 1) := by decide +kernel
theorem dX11_event_88 : decode cX11_event 88 = .ok (.iadd, 1) := by decide +kernel
theorem dX11_event_89 : decode cX11_event 89 = .ok (.invokestatic 51, 3) := by decide +kernel
theorem dX11_event_92 : decode cX11_event 92 = .ok (.sipush 2999, 3) := by decide +kernel
theorem dX11_event_95 : decode cX11_event 95 = .ok (.invokestatic 104, 3) := by decide +kernel
theorem dX11_event_98 : decode cX11_event 98 = .ok (.ifCond .ne 6, 3) := by decide +kernel
theorem dX11_event_101 : decode cX11_event 101 = .ok (.bipush (-2), 2) := by decide +kernel
theorem dX11_event_103 : decode cX11_event 103 = .ok (.ireturn, 1) := by decide +kernel
theorem dX11_event_104 : decode cX11_event 104 = .ok (.iload 7, 2) := by decide +kernel
theorem dX11_event_106 : decode cX11_event 106 = .ok (.ifCond .ne 10, 3) := by decide +kernel
theorem dX11_event_109 : decode cX11_event 109 = .ok (.iload_n 3, 1) := by decide +kernel
theorem dX11_event_110 : decode cX11_event 110 = .ok (.ifCond .eq 6, 3) := by decide +kernel
theorem dX11_event_113 : decode cX11_event 113 = .ok (.bipush (-2), 2) := by decide +kernel
theorem dX11_event_115 : decode cX11_event 115 = .ok (.ireturn, 1) := by decide +kernel
theorem dX11_event_116 : decode cX11_event 116 = .ok (.aload 6, 2) := by decide +kernel
theorem dX11_event_118 : decode cX11_event 118 = .ok (.iload_n 2, 1) := by decide +kernel
theorem dX11_event_119 : decode cX11_event 119 = .ok (.iload_n 3, 1) := by decide +kernel
theorem dX11_event_120 : decode cX11_event 120 = .ok (.iload 4, 2) := by decide +kernel
theorem dX11_event_122 : decode cX11_event 122 = .ok (.iload 5, 2) := by decide +kernel
theorem dX11_event_124 : decode cX11_event 124 = .ok (.invokevirtual 137, 3) := by decide +kernel
theorem dX11_event_127 : decode cX11_event 127 = .ok (.ireturn, 1) := by decide +kernel
theorem dX11_skip_0 : decode cX11_skip 0 = .ok (.aload_n 0, 1) := by decide +kernel
theorem dX11_skip_1 : decode cX11_skip 1 = .ok (.iload_n 1, 1) := by decide +kernel
theorem dX11_skip_2 : decode cX11_skip 2 = .ok (.iload_n 2, 1) := by decide +kernel
theorem dX11_skip_3 : decode cX11_skip 3 = .ok (.invokevirtual 140, 3) := by decide +kernel
theorem dX11_skip_6 : decode cX11_skip 6 = .ok (.ifCond .ne 6, 3) := by decide +kernel
theorem dX11_skip_9 : decode cX11_skip 9 = .ok (.bipush (-2), 2) := by decide +kernel
theorem dX11_skip_11 : decode cX11_skip 11 = .ok (.ireturn, 1) := by decide +kernel
theorem dX11_skip_12 : decode cX11_skip 12 = .ok (.aload_n 0, 1) := by decide +kernel
theorem dX11_skip_13 : decode cX11_skip 13 = .ok (.getfield 18, 3) := by decide +kernel
theorem dX11_skip_16 : decode cX11_skip 16 = .ok (.iload_n 1, 1) := by decide +kernel
theorem dX11_skip_17 : decode cX11_skip 17 = .ok (.aaload, 1) := by decide +kernel
theorem dX11_skip_18 : decode cX11_skip 18 = .ok (.iload_n 2, 1) := by decide +kernel
theorem dX11_skip_19 : decode cX11_skip 19 = .ok (.invokevirtual 144, 3) := by decide +kernel
theorem dX11_skip_22 : decode cX11_skip 22 = .ok (.ifCond .eq 7, 3) := by decide +kernel
theorem dX11_skip_25 : decode cX11_skip 25 = .ok (.iconst 1, 1) := by decide +kernel
theorem dX11_skip_26 : decode cX11_skip 26 = .ok (.goto 5, 3) := by decide +kernel
theorem dX11_skip_29 : decode cX11_skip 29 = .ok (.bipush (-2), 2) := by decide +kernel
theorem dX11_skip_31 : decode cX11_skip 31 = .ok (.ireturn, 1) := by decide +kernel
theorem dX11_take_0 : decode cX11_take 0 = .ok (.iload_n 1, 1) := by decide +kernel
theorem dX11_take_1 : decode cX11_take 1 = .ok (.invokestatic 128, 3) := by decide +kernel
theorem dX11_take_4 : decode cX11_take 4 = .ok (.ifCond .ne 6, 3) := by decide +kernel
theorem dX11_take_7 : decode cX11_take 7 = .ok (.bipush (-2), 2) := by decide +kernel
theorem dX11_take_9 : decode cX11_take 9 = .ok (.ireturn, 1) := by decide +kernel
theorem dX11_take_10 : decode cX11_take 10 = .ok (.aload_n 0, 1) := by decide +kernel
theorem dX11_take_11 : decode cX11_take 11 = .ok (.getfield 18, 3) := by decide +kernel
theorem dX11_take_14 : decode cX11_take 14 = .ok (.iload_n 1, 1) := by decide +kernel
theorem dX11_take_15 : decode cX11_take 15 = .ok (.aaload, 1) := by decide +kernel
theorem dX11_take_16 : decode cX11_take 16 = .ok (.iconst 1, 1) := by decide +kernel
theorem dX11_take_17 : decode cX11_take 17 = .ok (.putfield 147, 3) := by decide +kernel
theorem dX11_take_20 : decode cX11_take 20 = .ok (.iconst 1, 1) := by decide +kernel
theorem dX11_take_21 : decode cX11_take 21 = .ok (.ireturn, 1) := by decide +kernel
theorem dX11_hold_0 : decode cX11_hold 0 = .ok (.iload_n 1, 1) := by decide +kernel
theorem dX11_hold_1 : decode cX11_hold 1 = .ok (.invokestatic 128, 3) := by decide +kernel
theorem dX11_hold_4 : decode cX11_hold 4 = .ok (.ifCond .ne 6, 3) := by decide +kernel
theorem dX11_hold_7 : decode cX11_hold 7 = .ok (.bipush (-2), 2) := by decide +kernel
theorem dX11_hold_9 : decode cX11_hold 9 = .ok (.ireturn, 1) := by decide +kernel
theorem dX11_hold_10 : decode cX11_hold 10 = .ok (.aload_n 0, 1) := by decide +kernel
theorem dX11_hold_11 : decode cX11_hold 11 = .ok (.getfield 18, 3) := by decide +kernel
theorem dX11_hold_14 : decode cX11_hold 14 = .ok (.iload_n 1, 1) := by decide +kernel
theorem dX11_hold_15 : decode cX11_hold 15 = .ok (.aaload, 1) := by decide +kernel
theorem dX11_hold_16 : decode cX11_hold 16 = .ok (.getfield 151, 3) := by decide +kernel
theorem dX11_hold_19 : decode cX11_hold 19 = .ok (.ifCond .eq 7, 3) := by decide +kernel
theorem dX11_hold_22 : decode cX11_hold 22 = .ok (.iconst 1, 1) := by decide +kernel
theorem dX11_hold_23 : decode cX11_hold 23 = .ok (.goto 4, 3) := by decide +kernel
theorem dX11_hold_26 : decode cX11_hold 26 = .ok (.iconst 0, 1) := by decide +kernel
theorem dX11_hold_27 : decode cX11_hold 27 = .ok (.istore_n 3, 1) := by decide +kernel
theorem dX11_hold_28 : decode cX11_hold 28 = .ok (.aload_n 0, 1) := by decide +kernel
theorem dX11_hold_29 : decode cX11_hold 29 = .ok (.getfield 18, 3) := by decide +kernel
theorem dX11_hold_32 : decode cX11_hold 32 = .ok (.iload_n 1, 1) := by decide +kernel
theorem dX11_hold_33 : decode cX11_hold 33 = .ok (.aaload, 1) := by decide +kernel
theorem dX11_hold_34 : decode cX11_hold 34 = .ok (.iload_n 2, 1) := by decide +kernel
theorem dX11_hold_35 : decode cX11_hold 35 = .ok (.putfield 151, 3) := by decide +kernel
theorem dX11_hold_38 : decode cX11_hold 38 = .ok (.iload_n 3, 1) := by decide +kernel
theorem dX11_hold_39 : decode cX11_hold 39 = .ok (.ireturn, 1) := by decide +kernel
theorem dX11_overrun_0 : decode cX11_overrun 0 = .ok (.iload_n 1, 1) := by decide +kernel
theorem dX11_overrun_1 : decode cX11_overrun 1 = .ok (.invokestatic 128, 3) := by decide +kernel
theorem dX11_overrun_4 : decode cX11_overrun 4 = .ok (.ifCond .eq 14, 3) := by decide +kernel
theorem dX11_overrun_7 : decode cX11_overrun 7 = .ok (.iload_n 2, 1) := by decide +kernel
theorem dX11_overrun_8 : decode cX11_overrun 8 = .ok (.iconst 1, 1) := by decide +kernel
theorem dX11_overrun_9 : decode cX11_overrun 9 = .ok (.sipush 1000, 3) := by decide +kernel
theorem dX11_overrun_12 : decode cX11_overrun 12 = .ok (.invokestatic 104, 3) := by decide +kernel
theorem dX11_overrun_15 : decode cX11_overrun 15 = .ok (.ifCond .ne 6, 3) := by decide +kernel
theorem dX11_overrun_18 : decode cX11_overrun 18 = .ok (.bipush (-2), 2) := by decide +kernel
theorem dX11_overrun_20 : decode cX11_overrun 20 = .ok (.ireturn, 1) := by decide +kernel
theorem dX11_overrun_21 : decode cX11_overrun 21 = .ok (.aload_n 0, 1) := by decide +kernel
theorem dX11_overrun_22 : decode cX11_overrun 22 = .ok (.getfield 18, 3) := by decide +kernel
theorem dX11_overrun_25 : decode cX11_overrun 25 = .ok (.iload_n 1, 1) := by decide +kernel
theorem dX11_overrun_26 : decode cX11_overrun 26 = .ok (.aaload, 1) := by decide +kernel
theorem dX11_overrun_27 : decode cX11_overrun 27 = .ok (.iload_n 2, 1) := by decide +kernel
theorem dX11_overrun_28 : decode cX11_overrun 28 = .ok (.invokevirtual 154, 3) := by decide +kernel
theorem dX11_overrun_31 : decode cX11_overrun 31 = .ok (.ireturn, 1) := by decide +kernel
theorem dX11_fail_0 : decode cX11_fail 0 = .ok (.iload_n 1, 1) := by decide +kernel
theorem dX11_fail_1 : decode cX11_fail 1 = .ok (.invokestatic 128, 3) := by decide +kernel
theorem dX11_fail_4 : decode cX11_fail 4 = .ok (.ifCond .eq 23, 3) := by decide +kernel
theorem dX11_fail_7 : decode cX11_fail 7 = .ok (.iload_n 2, 1) := by decide +kernel
theorem dX11_fail_8 : decode cX11_fail 8 = .ok (.iconst 0, 1) := by decide +kernel
theorem dX11_fail_9 : decode cX11_fail 9 = .ok (.iconst 1, 1) := by decide +kernel
theorem dX11_fail_10 : decode cX11_fail 10 = .ok (.invokestatic 104, 3) := by decide +kernel
theorem dX11_fail_13 : decode cX11_fail 13 = .ok (.ifCond .eq 14, 3) := by decide +kernel
theorem dX11_fail_16 : decode cX11_fail 16 = .ok (.iload_n 3, 1) := by decide +kernel
theorem dX11_fail_17 : decode cX11_fail 17 = .ok (.iconst 1, 1) := by decide +kernel
theorem dX11_fail_18 : decode cX11_fail 18 = .ok (.sipush 1000, 3) := by decide +kernel
theorem dX11_fail_21 : decode cX11_fail 21 = .ok (.invokestatic 104, 3) := by decide +kernel
theorem dX11_fail_24 : decode cX11_fail 24 = .ok (.ifCond .ne 6, 3) := by decide +kernel
theorem dX11_fail_27 : decode cX11_fail 27 = .ok (.bipush (-2), 2) := by decide +kernel
theorem dX11_fail_29 : decode cX11_fail 29 = .ok (.ireturn, 1) := by decide +kernel
theorem dX11_fail_30 : decode cX11_fail 30 = .ok (.aload_n 0, 1) := by decide +kernel
theorem dX11_fail_31 : decode cX11_fail 31 = .ok (.getfield 18, 3) := by decide +kernel
theorem dX11_fail_34 : decode cX11_fail 34 = .ok (.iload_n 1, 1) := by decide +kernel
theorem dX11_fail_35 : decode cX11_fail 35 = .ok (.aaload, 1) := by decide +kernel
theorem dX11_fail_36 : decode cX11_fail 36 = .ok (.getfield 157, 3) := by decide +kernel
theorem dX11_fail_39 : decode cX11_fail 39 = .ok (.iload_n 2, 1) := by decide +kernel
theorem dX11_fail_40 : decode cX11_fail 40 = .ok (.aload_n 0, 1) := by decide +kernel
theorem dX11_fail_41 : decode cX11_fail 41 = .ok (.getfield 131, 3) := by decide +kernel
theorem dX11_fail_44 : decode cX11_fail 44 = .ok (.iastore, 1) := by decide +kernel
theorem dX11_fail_45 : decode cX11_fail 45 = .ok (.aload_n 0, 1) := by decide +kernel
theorem dX11_fail_46 : decode cX11_fail 46 = .ok (.getfield 18, 3) := by decide +kernel
theorem dX11_fail_49 : decode cX11_fail 49 = .ok (.iload_n 1, 1) := by decide +kernel
theorem dX11_fail_50 : decode cX11_fail 50 = .ok (.aaload, 1) := by decide +kernel
theorem dX11_fail_51 : decode cX11_fail 51 = .ok (.getfield 161, 3) := by decide +kernel
theorem dX11_fail_54 : decode cX11_fail 54 = .ok (.iload_n 2, 1) := by decide +kernel
theorem dX11_fail_55 : decode cX11_fail 55 = .ok (.aload_n 0, 1) := by decide +kernel
theorem dX11_fail_56 : decode cX11_fail 56 = .ok (.getfield 131, 3) := by decide +kernel
theorem dX11_fail_59 : decode cX11_fail 59 = .ok (.iload_n 3, 1) := by decide +kernel
theorem dX11_fail_60 : decode cX11_fail 60 = .ok (.iadd, 1) := by decide +kernel
theorem dX11_fail_61 : decode cX11_fail 61 = .ok (.iastore, 1) := by decide +kernel
theorem dX11_fail_62 : decode cX11_fail 62 = .ok (.iconst 1, 1) := by decide +kernel
theorem dX11_fail_63 : decode cX11_fail 63 = .ok (.ireturn, 1) := by decide +kernel
theorem dX11_set_0 : decode cX11_set 0 = .ok (.iload_n 1, 1) := by decide +kernel
theorem dX11_set_1 : decode cX11_set 1 = .ok (.invokestatic 128, 3) := by decide +kernel
theorem dX11_set_4 : decode cX11_set 4 = .ok (.ifCond .eq 15, 3) := by decide +kernel
theorem dX11_set_7 : decode cX11_set 7 = .ok (.iload_n 2, 1) := by decide +kernel
theorem dX11_set_8 : decode cX11_set 8 = .ok (.bipush 16, 2) := by decide +kernel
theorem dX11_set_10 : decode cX11_set 10 = .ok (.sipush 1000, 3) := by decide +kernel
theorem dX11_set_13 : decode cX11_set 13 = .ok (.invokestatic 104, 3) := by decide +kernel
theorem dX11_set_16 : decode cX11_set 16 = .ok (.ifCond .ne 6, 3) := by decide +kernel
theorem dX11_set_19 : decode cX11_set 19 = .ok (.bipush (-2), 2) := by decide +kernel
theorem dX11_set_21 : decode cX11_set 21 = .ok (.ireturn, 1) := by decide +kernel
theorem dX11_set_22 : decode cX11_set 22 = .ok (.iload_n 3, 1) := by decide +kernel
theorem dX11_set_23 : decode cX11_set 23 = .ok (.iload_n 2, 1) := by decide +kernel
theorem dX11_set_24 : decode cX11_set 24 = .ok (.sipush 3000, 3) := by decide +kernel
theorem dX11_set_27 : decode cX11_set 27 = .ok (.invokestatic 104, 3) := by decide +kernel
theorem dX11_set_30 : decode cX11_set 30 = .ok (.ifCond .eq 14, 3) := by decide +kernel
theorem dX11_set_33 : decode cX11_set 33 = .ok (.iload 4, 2) := by decide +kernel
theorem dX11_set_35 : decode cX11_set 35 = .ok (.iconst 1, 1) := by decide +kernel
theorem dX11_set_36 : decode cX11_set 36 = .ok (.bipush 100, 2) := by decide +kernel
theorem dX11_set_38 : decode cX11_set 38 = .ok (.invokestatic 104, 3) := by decide +kernel
theorem dX11_set_41 : decode cX11_set 41 = .ok (.ifCond .ne 6, 3) := by decide +kernel
theorem dX11_set_44 : decode cX11_set 44 = .ok (.bipush (-2), 2) := by decide +kernel
theorem dX11_set_46 : decode cX11_set 46 = .ok (.ireturn, 1) := by decide +kernel
theorem dX11_set_47 : decode cX11_set 47 = .ok (.aload_n 0, 1) := by decide +kernel
theorem dX11_set_48 : decode cX11_set 48 = .ok (.getfield 24, 3) := by decide +kernel
theorem dX11_set_51 : decode cX11_set 51 = .ok (.iload_n 1, 1) := by decide +kernel
theorem dX11_set_52 : decode cX11_set 52 = .ok (.aaload, 1) := by decide +kernel
theorem dX11_set_53 : decode cX11_set 53 = .ok (.iload_n 2, 1) := by decide +kernel
theorem dX11_set_54 : decode cX11_set 54 = .ok (.putfield 164, 3) := by decide +kernel
theorem dX11_set_57 : decode cX11_set 57 = .ok (.aload_n 0, 1) := by decide +kernel
theorem dX11_set_58 : decode cX11_set 58 = .ok (.getfield 24, 3) := by decide +kernel
theorem dX11_set_61 : decode cX11_set 61 = .ok (.iload_n 1, 1) := by decide +kernel
theorem dX11_set_62 : decode cX11_set 62 = .ok (.aaload, 1) := by decide +kernel
theorem dX11_set_63 : decode cX11_set 63 = .ok (.iload_n 3, 1) := by decide +kernel
theorem dX11_set_64 : decode cX11_set 64 = .ok (.putfield 167, 3) := by decide +kernel
theorem dX11_set_67 : decode cX11_set 67 = .ok (.aload_n 0, 1) := by decide +kernel
theorem dX11_set_68 : decode cX11_set 68 = .ok (.getfield 24, 3) := by decide +kernel
theorem dX11_set_71 : decode cX11_set 71 = .ok (.iload_n 1, 1) := by decide +kernel
theorem dX11_set_72 : decode cX11_set 72 = .ok (.aaload, 1) := by decide +kernel
theorem dX11_set_73 : decode cX11_set 73 = .ok (.iload 4, 2) := by decide +kernel
theorem dX11_set_75 : decode cX11_set 75 = .ok (.putfield 170, 3) := by decide +kernel
theorem dX11_set_78 : decode cX11_set 78 = .ok (.iconst 1, 1) := by decide +kernel
theorem dX11_set_79 : decode cX11_set 79 = .ok (.ireturn, 1) := by decide +kernel
theorem dX11_buffer_0 : decode cX11_buffer 0 = .ok (.iload_n 1, 1) := by decide +kernel
theorem dX11_buffer_1 : decode cX11_buffer 1 = .ok (.invokestatic 128, 3) := by decide +kernel
theorem dX11_buffer_4 : decode cX11_buffer 4 = .ok (.ifCond .eq 16, 3) := by decide +kernel
theorem dX11_buffer_7 : decode cX11_buffer 7 = .ok (.iload_n 2, 1) := by decide +kernel
theorem dX11_buffer_8 : decode cX11_buffer 8 = .ok (.sipush 1000, 3) := by decide +kernel
theorem dX11_buffer_11 : decode cX11_buffer 11 = .ok (.sipush 20000, 3) := by decide +kernel
theorem dX11_buffer_14 : decode cX11_buffer 14 = .ok (.invokestatic 104, 3) := by decide +kernel
theorem dX11_buffer_17 : decode cX11_buffer 17 = .ok (.ifCond .ne 6, 3) := by decide +kernel
theorem dX11_buffer_20 : decode cX11_buffer 20 = .ok (.bipush (-2), 2) := by decide +kernel
theorem dX11_buffer_22 : decode cX11_buffer 22 = .ok (.ireturn, 1) := by decide +kernel
theorem dX11_buffer_23 : decode cX11_buffer 23 = .ok (.aload_n 0, 1) := by decide +kernel
theorem dX11_buffer_24 : decode cX11_buffer 24 = .ok (.getfield 24, 3) := by decide +kernel
theorem dX11_buffer_27 : decode cX11_buffer 27 = .ok (.iload_n 1, 1) := by decide +kernel
theorem dX11_buffer_28 : decode cX11_buffer 28 = .ok (.aaload, 1) := by decide +kernel
theorem dX11_buffer_29 : decode cX11_buffer 29 = .ok (.getfield 173, 3) := by decide +kernel
theorem dX11_buffer_32 : decode cX11_buffer 32 = .ok (.istore_n 3, 1) := by decide +kernel
theorem dX11_buffer_33 : decode cX11_buffer 33 = .ok (.aload_n 0, 1) := by decide +kernel
theorem dX11_buffer_34 : decode cX11_buffer 34 = .ok (.getfield 24, 3) := by decide +kernel
theorem dX11_buffer_37 : decode cX11_buffer 37 = .ok (.iload_n 1, 1) := by decide +kernel
theorem dX11_buffer_38 : decode cX11_buffer 38 = .ok (.aaload, 1) := by decide +kernel
theorem dX11_buffer_39 : decode cX11_buffer 39 = .ok (.iload_n 2, 1) := by decide +kernel
theorem dX11_buffer_40 : decode cX11_buffer 40 = .ok (.putfield 173, 3) := by decide +kernel
theorem dX11_buffer_43 : decode cX11_buffer 43 = .ok (.iload_n 3, 1) := by decide +kernel
theorem dX11_buffer_44 : decode cX11_buffer 44 = .ok (.ireturn, 1) := by decide +kernel
theorem dX11_total_0 : decode cX11_total 0 = .ok (.iload_n 1, 1) := by decide +kernel
theorem dX11_total_1 : decode cX11_total 1 = .ok (.iconst 0, 1) := by decide +kernel
theorem dX11_total_2 : decode cX11_total 2 = .ok (.sipush 9000, 3) := by decide +kernel
theorem dX11_total_5 : decode cX11_total 5 = .ok (.invokestatic 104, 3) := by decide +kernel
theorem dX11_total_8 : decode cX11_total 8 = .ok (.ifCond .ne 6, 3) := by decide +kernel
theorem dX11_total_11 : decode cX11_total 11 = .ok (.bipush (-2), 2) := by decide +kernel
theorem dX11_total_13 : decode cX11_total 13 = .ok (.ireturn, 1) := by decide +kernel
theorem dX11_total_14 : decode cX11_total 14 = .ok (.aload_n 0, 1) := by decide +kernel
theorem dX11_total_15 : decode cX11_total 15 = .ok (.getfield 41, 3) := by decide +kernel
theorem dX11_total_18 : decode cX11_total 18 = .ok (.istore_n 2, 1) := by decide +kernel
theorem dX11_total_19 : decode cX11_total 19 = .ok (.aload_n 0, 1) := by decide +kernel
theorem dX11_total_20 : decode cX11_total 20 = .ok (.iload_n 1, 1) := by decide +kernel
theorem dX11_total_21 : decode cX11_total 21 = .ok (.putfield 41, 3) := by decide +kernel
theorem dX11_total_24 : decode cX11_total 24 = .ok (.iload_n 2, 1) := by decide +kernel
theorem dX11_total_25 : decode cX11_total 25 = .ok (.ireturn, 1) := by decide +kernel
theorem dX11_service_0 : decode cX11_service 0 = .ok (.iload_n 1, 1) := by decide +kernel
theorem dX11_service_1 : decode cX11_service 1 = .ok (.invokestatic 128, 3) := by decide +kernel
theorem dX11_service_4 : decode cX11_service 4 = .ok (.ifCond .ne 6, 3) := by decide +kernel
theorem dX11_service_7 : decode cX11_service 7 = .ok (.bipush (-2), 2) := by decide +kernel
theorem dX11_service_9 : decode cX11_service 9 = .ok (.ireturn, 1) := by decide +kernel
theorem dX11_service_10 : decode cX11_service 10 = .ok (.aload_n 0, 1) := by decide +kernel
theorem dX11_service_11 : decode cX11_service 11 = .ok (.getfield 24, 3) := by decide +kernel
theorem dX11_service_14 : decode cX11_service 14 = .ok (.iload_n 1, 1) := by decide +kernel
theorem dX11_service_15 : decode cX11_service 15 = .ok (.aaload, 1) := by decide +kernel
theorem dX11_service_16 : decode cX11_service 16 = .ok (.getfield 176, 3) := by decide +kernel
theorem dX11_service_19 : decode cX11_service 19 = .ok (.ifCond .eq 7, 3) := by decide +kernel
theorem dX11_service_22 : decode cX11_service 22 = .ok (.iconst 1, 1) := by decide +kernel
theorem dX11_service_23 : decode cX11_service 23 = .ok (.goto 4, 3) := by decide +kernel
theorem dX11_service_26 : decode cX11_service 26 = .ok (.iconst 0, 1) := by decide +kernel
theorem dX11_service_27 : decode cX11_service 27 = .ok (.istore_n 3, 1) := by decide +kernel
theorem dX11_service_28 : decode cX11_service 28 = .ok (.aload_n 0, 1) := by decide +kernel
theorem dX11_service_29 : decode cX11_service 29 = .ok (.getfield 24, 3) := by decide +kernel
theorem dX11_service_32 : decode cX11_service 32 = .ok (.iload_n 1, 1) := by decide +kernel
theorem dX11_service_33 : decode cX11_service 33 = .ok (.aaload, 1) := by decide +kernel
theorem dX11_service_34 : decode cX11_service 34 = .ok (.iload_n 2, 1) := by decide +kernel
theorem dX11_service_35 : decode cX11_service 35 = .ok (.putfield 176, 3) := by decide +kernel
theorem dX11_service_38 : decode cX11_service 38 = .ok (.iload_n 3, 1) := by decide +kernel
theorem dX11_service_39 : decode cX11_service 39 = .ok (.ireturn, 1) := by decide +kernel
theorem dX11_lines_0 : decode cX11_lines 0 = .ok (.iload_n 1, 1) := by decide +kernel
theorem dX11_lines_1 : decode cX11_lines 1 = .ok (.iconst 1, 1) := by decide +kernel
theorem dX11_lines_2 : decode cX11_lines 2 = .ok (.bipush 8, 2) := by decide +kernel
theorem dX11_lines_4 : decode cX11_lines 4 = .ok (.invokestatic 104, 3) := by decide +kernel
theorem dX11_lines_7 : decode cX11_lines 7 = .ok (.ifCond .eq 13, 3) := by decide +kernel
theorem dX11_lines_10 : decode cX11_lines 10 = .ok (.iload_n 2, 1) := by decide +kernel
theorem dX11_lines_11 : decode cX11_lines 11 = .ok (.iconst 1, 1) := by decide +kernel
theorem dX11_lines_12 : decode cX11_lines 12 = .ok (.bipush 8, 2) := by decide +kernel
theorem dX11_lines_14 : decode cX11_lines 14 = .ok (.invokestatic 104, 3) := by decide +kernel
theorem dX11_lines_17 : decode cX11_lines 17 = .ok (.ifCond .ne 6, 3) := by decide +kernel
theorem dX11_lines_20 : decode cX11_lines 20 = .ok (.bipush (-2), 2) := by decide +kernel
theorem dX11_lines_22 : decode cX11_lines 22 = .ok (.ireturn, 1) := by decide +kernel
theorem dX11_lines_23 : decode cX11_lines 23 = .ok (.aload_n 0, 1) := by decide +kernel
theorem dX11_lines_24 : decode cX11_lines 24 = .ok (.getfield 88, 3) := by decide +kernel
theorem dX11_lines_27 : decode cX11_lines 27 = .ok (.iload_n 1, 1) := by decide +kernel
theorem dX11_lines_28 : decode cX11_lines 28 = .ok (.putfield 179, 3) := by decide +kernel
theorem dX11_lines_31 : decode cX11_lines 31 = .ok (.aload_n 0, 1) := by decide +kernel
theorem dX11_lines_32 : decode cX11_lines 32 = .ok (.getfield 88, 3) := by decide +kernel
theorem dX11_lines_35 : decode cX11_lines 35 = .ok (.iload_n 2, 1) := by decide +kernel
theorem dX11_lines_36 : decode cX11_lines 36 = .ok (.putfield 182, 3) := by decide +kernel
theorem dX11_lines_39 : decode cX11_lines 39 = .ok (.iconst 1, 1) := by decide +kernel
theorem dX11_lines_40 : decode cX11_lines 40 = .ok (.ireturn, 1) := by decide +kernel
theorem dX11_lose_0 : decode cX11_lose 0 = .ok (.iload_n 1, 1) := by decide +kernel
theorem dX11_lose_1 : decode cX11_lose 1 = .ok (.iconst 0, 1) := by decide +kernel
theorem dX11_lose_2 : decode cX11_lose 2 = .ok (.bipush 16, 2) := by decide +kernel
theorem dX11_lose_4 : decode cX11_lose 4 = .ok (.invokestatic 104, 3) := by decide +kernel
theorem dX11_lose_7 : decode cX11_lose 7 = .ok (.ifCond .ne 6, 3) := by decide +kernel
theorem dX11_lose_10 : decode cX11_lose 10 = .ok (.bipush (-2), 2) := by decide +kernel
theorem dX11_lose_12 : decode cX11_lose 12 = .ok (.ireturn, 1) := by decide +kernel
theorem dX11_lose_13 : decode cX11_lose 13 = .ok (.iload_n 1, 1) := by decide +kernel
theorem dX11_lose_14 : decode cX11_lose 14 = .ok (.ifCond .ne 14, 3) := by decide +kernel
theorem dX11_lose_17 : decode cX11_lose 17 = .ok (.aload_n 0, 1) := by decide +kernel
theorem dX11_lose_18 : decode cX11_lose 18 = .ok (.iload_n 2, 1) := by decide +kernel
theorem dX11_lose_19 : decode cX11_lose 19 = .ok (.invokevirtual 185, 3) := by decide +kernel
theorem dX11_lose_22 : decode cX11_lose 22 = .ok (.ifCond .ne 6, 3) := by decide +kernel
theorem dX11_lose_25 : decode cX11_lose 25 = .ok (.bipush (-2), 2) := by decide +kernel
theorem dX11_lose_27 : decode cX11_lose 27 = .ok (.ireturn, 1) := by decide +kernel
theorem dX11_lose_28 : decode cX11_lose 28 = .ok (.iload_n 1, 1) := by decide +kernel
theorem dX11_lose_29 : decode cX11_lose 29 = .ok (.ifCond .le 22, 3) := by decide +kernel
theorem dX11_lose_32 : decode cX11_lose 32 = .ok (.iload_n 2, 1) := by decide +kernel
theorem dX11_lose_33 : decode cX11_lose 33 = .ok (.aload_n 0, 1) := by decide +kernel
theorem dX11_lose_34 : decode cX11_lose 34 = .ok (.getfield 88, 3) := by decide +kernel
theorem dX11_lose_37 : decode cX11_lose 37 = .ok (.getfield 188, 3) := by decide +kernel
theorem dX11_lose_40 : decode cX11_lose 40 = .ok (.ldc 191, 2) := by decide +kernel
theorem dX11_lose_42 : decode cX11_lose 42 = .ok (.invokestatic 104, 3) := by decide +kernel
theorem dX11_lose_45 : decode cX11_lose 45 = .ok (.ifCond .ne 6, 3) := by decide +kernel
theorem dX11_lose_48 : decode cX11_lose 48 = .ok (.bipush (-2), 2) := by decide +kernel
theorem dX11_lose_50 : decode cX11_lose 50 = .ok (.ireturn, 1) := by decide +kernel
theorem dX11_lose_51 : decode cX11_lose 51 = .ok (.aload_n 0, 1) := by decide +kernel
theorem dX11_lose_52 : decode cX11_lose 52 = .ok (.getfield 88, 3) := by decide +kernel
theorem dX11_lose_55 : decode cX11_lose 55 = .ok (.invokevirtual 192, 3) := by decide +kernel
theorem dX11_lose_58 : decode cX11_lose 58 = .ok (.sipush 300, 3) := by decide +kernel
theorem dX11_lose_61 : decode cX11_lose 61 = .ok (.if_icmp .lt 6, 3) := by decide +kernel
theorem dX11_lose_64 : decode cX11_lose 64 = .ok (.bipush (-3), 2) := by decide +kernel
theorem dX11_lose_66 : decode cX11_lose 66 = .ok (.ireturn, 1) := by decide +kernel
theorem dX11_lose_67 : decode cX11_lose 67 = .ok (.iload_n 1, 1) := by decide +kernel
theorem dX11_lose_68 : decode cX11_lose 68 = .ok (.ifCond .ne 18, 3) := by decide +kernel
theorem dX11_lose_71 : decode cX11_lose 71 = .ok (.aload_n 0, 1) := by decide +kernel
theorem dX11_lose_72 : decode cX11_lose 72 = .ok (.getfield 88, 3) := by decide +kernel
theorem dX11_lose_75 : decode cX11_lose 75 = .ok (.getfield 196, 3) := by decide +kernel
theorem dX11_lose_78 : decode cX11_lose 78 = .ok (.iload_n 2, 1) := by decide +kernel
theorem dX11_lose_79 : decode cX11_lose 79 = .ok (.iconst 0, 1) := by decide +kernel
theorem dX11_lose_80 : decode cX11_lose 80 = .ok (.invokevirtual 200, 3) := by decide +kernel
theorem dX11_lose_83 : decode cX11_lose 83 = .ok (.goto 17, 3) := by decide +kernel
theorem dX11_lose_86 : decode cX11_lose 86 = .ok (.aload_n 0, 1) := by decide +kernel
theorem dX11_lose_87 : decode cX11_lose 87 = .ok (.getfield 88, 3) := by decide +kernel
theorem dX11_lose_90 : decode cX11_lose 90 = .ok (.getfield 205, 3) := by decide +kernel
theorem dX11_lose_93 : decode cX11_lose 93 = .ok (.iload_n 2, 1) := by decide +kernel
theorem dX11_lose_94 : decode cX11_lose 94 = .ok (.iload_n 1, 1) := by decide +kernel
theorem dX11_lose_95 : decode cX11_lose 95 = .ok (.iconst 1, 1) := by decide +kernel
theorem dX11_lose_96 : decode cX11_lose 96 = .ok (.isub, 1) := by decide +kernel
theorem dX11_lose_97 : decode cX11_lose 97 = .ok (.invokevirtual 200, 3) := by decide +kernel
theorem dX11_lose_100 : decode cX11_lose 100 = .ok (.aload_n 0, 1) := by decide +kernel
theorem dX11_lose_101 : decode cX11_lose 101 = .ok (.getfield 88, 3) := by decide +kernel
theorem dX11_lose_104 : decode cX11_lose 104 = .ok (.invokevirtual 192, 3) := by decide +kernel
theorem dX11_lose_107 : decode cX11_lose 107 = .ok (.ireturn, 1) := by decide +kernel
theorem dX11_alter_0 : decode cX11_alter 0 = .ok (.aload_n 0, 1) := by decide +kernel
theorem dX11_alter_1 : decode cX11_alter 1 = .ok (.iload_n 1, 1) := by decide +kernel
theorem dX11_alter_2 : decode cX11_alter 2 = .ok (.invokevirtual 185, 3) := by decide +kernel
theorem dX11_alter_5 : decode cX11_alter 5 = .ok (.ifCond .eq 25, 3) := by decide +kernel
theorem dX11_alter_8 : decode cX11_alter 8 = .ok (.iload_n 2, 1) := by decide +kernel
theorem dX11_alter_9 : decode cX11_alter 9 = .ok (.iconst 0, 1) := by decide +kernel
theorem dX11_alter_10 : decode cX11_alter 10 = .ok (.sipush 187, 3) := by decide +kernel
theorem dX11_alter_13 : decode cX11_alter 13 = .ok (.invokestatic 104, 3) := by decide +kernel
theorem dX11_alter_16 : decode cX11_alter 16 = .ok (.ifCond .eq 14, 3) := by decide +kernel
theorem dX11_alter_19 : decode cX11_alter 19 = .ok (.iload_n 3, 1) := by decide +kernel
theorem dX11_alter_20 : decode cX11_alter 20 = .ok (.iconst 1, 1) := by decide +kernel
theorem dX11_alter_21 : decode cX11_alter 21 = .ok (.sipush 255, 3) := by decide +kernel
theorem dX11_alter_24 : decode cX11_alter 24 = .ok (.invokestatic 104, 3) := by decide +kernel
theorem dX11_alter_27 : decode cX11_alter 27 = .ok (.ifCond .ne 6, 3) := by decide +kernel
