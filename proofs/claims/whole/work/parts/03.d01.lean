theorem dX6_lengthen_22 : decode cX6_lengthen 22 = .ok (.if_icmp .le 6, 3) := by decide +kernel
theorem dX6_lengthen_25 : decode cX6_lengthen 25 = .ok (.bipush (-2), 2) := by decide +kernel
theorem dX6_lengthen_27 : decode cX6_lengthen 27 = .ok (.ireturn, 1) := by decide +kernel
theorem dX6_lengthen_28 : decode cX6_lengthen 28 = .ok (.aload_n 0, 1) := by decide +kernel
theorem dX6_lengthen_29 : decode cX6_lengthen 29 = .ok (.getfield 11, 3) := by decide +kernel
theorem dX6_lengthen_32 : decode cX6_lengthen 32 = .ok (.aload_n 0, 1) := by decide +kernel
theorem dX6_lengthen_33 : decode cX6_lengthen 33 = .ok (.getfield 19, 3) := by decide +kernel
theorem dX6_lengthen_36 : decode cX6_lengthen 36 = .ok (.bipush 7, 2) := by decide +kernel
theorem dX6_lengthen_38 : decode cX6_lengthen 38 = .ok (.imul, 1) := by decide +kernel
theorem dX6_lengthen_39 : decode cX6_lengthen 39 = .ok (.iconst 2, 1) := by decide +kernel
theorem dX6_lengthen_40 : decode cX6_lengthen 40 = .ok (.iadd, 1) := by decide +kernel
theorem dX6_lengthen_41 : decode cX6_lengthen 41 = .ok (.dup2, 1) := by decide +kernel
theorem dX6_lengthen_42 : decode cX6_lengthen 42 = .ok (.iaload, 1) := by decide +kernel
theorem dX6_lengthen_43 : decode cX6_lengthen 43 = .ok (.iload_n 1, 1) := by decide +kernel
theorem dX6_lengthen_44 : decode cX6_lengthen 44 = .ok (.iadd, 1) := by decide +kernel
theorem dX6_lengthen_45 : decode cX6_lengthen 45 = .ok (.iastore, 1) := by decide +kernel
theorem dX6_lengthen_46 : decode cX6_lengthen 46 = .ok (.aload_n 0, 1) := by decide +kernel
theorem dX6_lengthen_47 : decode cX6_lengthen 47 = .ok (.aload_n 0, 1) := by decide +kernel
theorem dX6_lengthen_48 : decode cX6_lengthen 48 = .ok (.getfield 19, 3) := by decide +kernel
theorem dX6_lengthen_51 : decode cX6_lengthen 51 = .ok (.iconst 2, 1) := by decide +kernel
theorem dX6_lengthen_52 : decode cX6_lengthen 52 = .ok (.invokevirtual 44, 3) := by decide +kernel
theorem dX6_lengthen_55 : decode cX6_lengthen 55 = .ok (.ireturn, 1) := by decide +kernel
theorem dX6_beginFrame_0 : decode cX6_beginFrame 0 = .ok (.aload_n 0, 1) := by decide +kernel
theorem dX6_beginFrame_1 : decode cX6_beginFrame 1 = .ok (.iconst 1, 1) := by decide +kernel
theorem dX6_beginFrame_2 : decode cX6_beginFrame 2 = .ok (.invokevirtual 48, 3) := by decide +kernel
theorem dX6_beginFrame_5 : decode cX6_beginFrame 5 = .ok (.istore_n 2, 1) := by decide +kernel
theorem dX6_beginFrame_6 : decode cX6_beginFrame 6 = .ok (.iload_n 2, 1) := by decide +kernel
theorem dX6_beginFrame_7 : decode cX6_beginFrame 7 = .ok (.iconst (-1), 1) := by decide +kernel
theorem dX6_beginFrame_8 : decode cX6_beginFrame 8 = .ok (.if_icmp .eq 46, 3) := by decide +kernel
theorem dX6_beginFrame_11 : decode cX6_beginFrame 11 = .ok (.aload_n 0, 1) := by decide +kernel
theorem dX6_beginFrame_12 : decode cX6_beginFrame 12 = .ok (.iload_n 2, 1) := by decide +kernel
theorem dX6_beginFrame_13 : decode cX6_beginFrame 13 = .ok (.iconst 5, 1) := by decide +kernel
theorem dX6_beginFrame_14 : decode cX6_beginFrame 14 = .ok (.invokevirtual 44, 3) := by decide +kernel
theorem dX6_beginFrame_17 : decode cX6_beginFrame 17 = .ok (.iload_n 1, 1) := by decide +kernel
theorem dX6_beginFrame_18 : decode cX6_beginFrame 18 = .ok (.if_icmp .ne 36, 3) := by decide +kernel
theorem dX6_beginFrame_21 : decode cX6_beginFrame 21 = .ok (.aload_n 0, 1) := by decide +kernel
theorem dX6_beginFrame_22 : decode cX6_beginFrame 22 = .ok (.iconst 3, 1) := by decide +kernel
theorem dX6_beginFrame_23 : decode cX6_beginFrame 23 = .ok (.invokevirtual 52, 3) := by decide +kernel
theorem dX6_beginFrame_26 : decode cX6_beginFrame 26 = .ok (.iconst 0, 1) := by decide +kernel
theorem dX6_beginFrame_27 : decode cX6_beginFrame 27 = .ok (.istore_n 3, 1) := by decide +kernel
theorem dX6_beginFrame_28 : decode cX6_beginFrame 28 = .ok (.iload_n 3, 1) := by decide +kernel
theorem dX6_beginFrame_29 : decode cX6_beginFrame 29 = .ok (.iload_n 2, 1) := by decide +kernel
theorem dX6_beginFrame_30 : decode cX6_beginFrame 30 = .ok (.if_icmp .ge 15, 3) := by decide +kernel
theorem dX6_beginFrame_33 : decode cX6_beginFrame 33 = .ok (.aload_n 0, 1) := by decide +kernel
theorem dX6_beginFrame_34 : decode cX6_beginFrame 34 = .ok (.iload_n 3, 1) := by decide +kernel
theorem dX6_beginFrame_35 : decode cX6_beginFrame 35 = .ok (.invokevirtual 56, 3) := by decide +kernel
theorem dX6_beginFrame_38 : decode cX6_beginFrame 38 = .ok (.pop, 1) := by decide +kernel
theorem dX6_beginFrame_39 : decode cX6_beginFrame 39 = .ok (.iinc 3 1, 3) := by decide +kernel
theorem dX6_beginFrame_42 : decode cX6_beginFrame 42 = .ok (.goto (-14), 3) := by decide +kernel
theorem dX6_beginFrame_45 : decode cX6_beginFrame 45 = .ok (.aload_n 0, 1) := by decide +kernel
theorem dX6_beginFrame_46 : decode cX6_beginFrame 46 = .ok (.iload_n 2, 1) := by decide +kernel
theorem dX6_beginFrame_47 : decode cX6_beginFrame 47 = .ok (.iload_n 1, 1) := by decide +kernel
theorem dX6_beginFrame_48 : decode cX6_beginFrame 48 = .ok (.invokevirtual 60, 3) := by decide +kernel
theorem dX6_beginFrame_51 : decode cX6_beginFrame 51 = .ok (.goto 79, 3) := by decide +kernel
theorem dX6_beginFrame_54 : decode cX6_beginFrame 54 = .ok (.aload_n 0, 1) := by decide +kernel
theorem dX6_beginFrame_55 : decode cX6_beginFrame 55 = .ok (.getfield 64, 3) := by decide +kernel
theorem dX6_beginFrame_58 : decode cX6_beginFrame 58 = .ok (.ifCond .eq 17, 3) := by decide +kernel
theorem dX6_beginFrame_61 : decode cX6_beginFrame 61 = .ok (.aload_n 0, 1) := by decide +kernel
theorem dX6_beginFrame_62 : decode cX6_beginFrame 62 = .ok (.iconst 3, 1) := by decide +kernel
theorem dX6_beginFrame_63 : decode cX6_beginFrame 63 = .ok (.invokevirtual 52, 3) := by decide +kernel
theorem dX6_beginFrame_66 : decode cX6_beginFrame 66 = .ok (.aload_n 0, 1) := by decide +kernel
theorem dX6_beginFrame_67 : decode cX6_beginFrame 67 = .ok (.iload_n 1, 1) := by decide +kernel
theorem dX6_beginFrame_68 : decode cX6_beginFrame 68 = .ok (.iconst 1, 1) := by decide +kernel
theorem dX6_beginFrame_69 : decode cX6_beginFrame 69 = .ok (.invokevirtual 68, 3) := by decide +kernel
theorem dX6_beginFrame_72 : decode cX6_beginFrame 72 = .ok (.goto 58, 3) := by decide +kernel
theorem dX6_beginFrame_75 : decode cX6_beginFrame 75 = .ok (.aload_n 0, 1) := by decide +kernel
theorem dX6_beginFrame_76 : decode cX6_beginFrame 76 = .ok (.getfield 19, 3) := by decide +kernel
theorem dX6_beginFrame_79 : decode cX6_beginFrame 79 = .ok (.iconst (-1), 1) := by decide +kernel
theorem dX6_beginFrame_80 : decode cX6_beginFrame 80 = .ok (.if_icmp .eq 36, 3) := by decide +kernel
theorem dX6_beginFrame_83 : decode cX6_beginFrame 83 = .ok (.aload_n 0, 1) := by decide +kernel
theorem dX6_beginFrame_84 : decode cX6_beginFrame 84 = .ok (.getfield 72, 3) := by decide +kernel
theorem dX6_beginFrame_87 : decode cX6_beginFrame 87 = .ok (.ifCond .ne 29, 3) := by decide +kernel
theorem dX6_beginFrame_90 : decode cX6_beginFrame 90 = .ok (.aload_n 0, 1) := by decide +kernel
theorem dX6_beginFrame_91 : decode cX6_beginFrame 91 = .ok (.aload_n 0, 1) := by decide +kernel
theorem dX6_beginFrame_92 : decode cX6_beginFrame 92 = .ok (.getfield 19, 3) := by decide +kernel
theorem dX6_beginFrame_95 : decode cX6_beginFrame 95 = .ok (.iconst 1, 1) := by decide +kernel
theorem dX6_beginFrame_96 : decode cX6_beginFrame 96 = .ok (.invokevirtual 44, 3) := by decide +kernel
theorem dX6_beginFrame_99 : decode cX6_beginFrame 99 = .ok (.aload_n 0, 1) := by decide +kernel
theorem dX6_beginFrame_100 : decode cX6_beginFrame 100 = .ok (.aload_n 0, 1) := by decide +kernel
theorem dX6_beginFrame_101 : decode cX6_beginFrame 101 = .ok (.getfield 19, 3) := by decide +kernel
theorem dX6_beginFrame_104 : decode cX6_beginFrame 104 = .ok (.iconst 2, 1) := by decide +kernel
theorem dX6_beginFrame_105 : decode cX6_beginFrame 105 = .ok (.invokevirtual 44, 3) := by decide +kernel
theorem dX6_beginFrame_108 : decode cX6_beginFrame 108 = .ok (.if_icmp .lt 8, 3) := by decide +kernel
theorem dX6_beginFrame_111 : decode cX6_beginFrame 111 = .ok (.aload_n 0, 1) := by decide +kernel
theorem dX6_beginFrame_112 : decode cX6_beginFrame 112 = .ok (.iconst 2, 1) := by decide +kernel
theorem dX6_beginFrame_113 : decode cX6_beginFrame 113 = .ok (.invokevirtual 52, 3) := by decide +kernel
theorem dX6_beginFrame_116 : decode cX6_beginFrame 116 = .ok (.aload_n 0, 1) := by decide +kernel
theorem dX6_beginFrame_117 : decode cX6_beginFrame 117 = .ok (.getfield 19, 3) := by decide +kernel
theorem dX6_beginFrame_120 : decode cX6_beginFrame 120 = .ok (.iconst (-1), 1) := by decide +kernel
theorem dX6_beginFrame_121 : decode cX6_beginFrame 121 = .ok (.if_icmp .ne 9, 3) := by decide +kernel
theorem dX6_beginFrame_124 : decode cX6_beginFrame 124 = .ok (.aload_n 0, 1) := by decide +kernel
theorem dX6_beginFrame_125 : decode cX6_beginFrame 125 = .ok (.iload_n 1, 1) := by decide +kernel
theorem dX6_beginFrame_126 : decode cX6_beginFrame 126 = .ok (.iconst 0, 1) := by decide +kernel
theorem dX6_beginFrame_127 : decode cX6_beginFrame 127 = .ok (.invokevirtual 68, 3) := by decide +kernel
theorem dX6_beginFrame_130 : decode cX6_beginFrame 130 = .ok (.aload_n 0, 1) := by decide +kernel
theorem dX6_beginFrame_131 : decode cX6_beginFrame 131 = .ok (.iconst 0, 1) := by decide +kernel
theorem dX6_beginFrame_132 : decode cX6_beginFrame 132 = .ok (.putfield 64, 3) := by decide +kernel
theorem dX6_beginFrame_135 : decode cX6_beginFrame 135 = .ok (.aload_n 0, 1) := by decide +kernel
theorem dX6_beginFrame_136 : decode cX6_beginFrame 136 = .ok (.iload_n 1, 1) := by decide +kernel
theorem dX6_beginFrame_137 : decode cX6_beginFrame 137 = .ok (.invokevirtual 75, 3) := by decide +kernel
theorem dX6_beginFrame_140 : decode cX6_beginFrame 140 = .ok (.return_, 1) := by decide +kernel
theorem dX6_clipAt_0 : decode cX6_clipAt 0 = .ok (.aload_n 0, 1) := by decide +kernel
theorem dX6_clipAt_1 : decode cX6_clipAt 1 = .ok (.getfield 31, 3) := by decide +kernel
theorem dX6_clipAt_4 : decode cX6_clipAt 4 = .ok (.iload_n 1, 1) := by decide +kernel
theorem dX6_clipAt_5 : decode cX6_clipAt 5 = .ok (.iconst 5, 1) := by decide +kernel
theorem dX6_clipAt_6 : decode cX6_clipAt 6 = .ok (.imul, 1) := by decide +kernel
theorem dX6_clipAt_7 : decode cX6_clipAt 7 = .ok (.iconst 2, 1) := by decide +kernel
theorem dX6_clipAt_8 : decode cX6_clipAt 8 = .ok (.iadd, 1) := by decide +kernel
theorem dX6_clipAt_9 : decode cX6_clipAt 9 = .ok (.iaload, 1) := by decide +kernel
theorem dX6_clipAt_10 : decode cX6_clipAt 10 = .ok (.ireturn, 1) := by decide +kernel
theorem dX6_frameAt_0 : decode cX6_frameAt 0 = .ok (.aload_n 0, 1) := by decide +kernel
theorem dX6_frameAt_1 : decode cX6_frameAt 1 = .ok (.getfield 31, 3) := by decide +kernel
theorem dX6_frameAt_4 : decode cX6_frameAt 4 = .ok (.iload_n 1, 1) := by decide +kernel
theorem dX6_frameAt_5 : decode cX6_frameAt 5 = .ok (.iconst 5, 1) := by decide +kernel
theorem dX6_frameAt_6 : decode cX6_frameAt 6 = .ok (.imul, 1) := by decide +kernel
theorem dX6_frameAt_7 : decode cX6_frameAt 7 = .ok (.iconst 3, 1) := by decide +kernel
theorem dX6_frameAt_8 : decode cX6_frameAt 8 = .ok (.iadd, 1) := by decide +kernel
theorem dX6_frameAt_9 : decode cX6_frameAt 9 = .ok (.iaload, 1) := by decide +kernel
theorem dX6_frameAt_10 : decode cX6_frameAt 10 = .ok (.ireturn, 1) := by decide +kernel
theorem dX6_behindRow_0 : decode cX6_behindRow 0 = .ok (.aload_n 0, 1) := by decide +kernel
theorem dX6_behindRow_1 : decode cX6_behindRow 1 = .ok (.getfield 78, 3) := by decide +kernel
theorem dX6_behindRow_4 : decode cX6_behindRow 4 = .ok (.ifCond .le 19, 3) := by decide +kernel
theorem dX6_behindRow_7 : decode cX6_behindRow 7 = .ok (.iload_n 1, 1) := by decide +kernel
theorem dX6_behindRow_8 : decode cX6_behindRow 8 = .ok (.aload_n 0, 1) := by decide +kernel
theorem dX6_behindRow_9 : decode cX6_behindRow 9 = .ok (.getfield 34, 3) := by decide +kernel
theorem dX6_behindRow_12 : decode cX6_behindRow 12 = .ok (.aload_n 0, 1) := by decide +kernel
theorem dX6_behindRow_13 : decode cX6_behindRow 13 = .ok (.getfield 78, 3) := by decide +kernel
theorem dX6_behindRow_16 : decode cX6_behindRow 16 = .ok (.iconst 1, 1) := by decide +kernel
theorem dX6_behindRow_17 : decode cX6_behindRow 17 = .ok (.isub, 1) := by decide +kernel
theorem dX6_behindRow_18 : decode cX6_behindRow 18 = .ok (.iaload, 1) := by decide +kernel
theorem dX6_behindRow_19 : decode cX6_behindRow 19 = .ok (.isub, 1) := by decide +kernel
theorem dX6_behindRow_20 : decode cX6_behindRow 20 = .ok (.goto 4, 3) := by decide +kernel
theorem dX6_behindRow_23 : decode cX6_behindRow 23 = .ok (.iconst 0, 1) := by decide +kernel
theorem dX6_behindRow_24 : decode cX6_behindRow 24 = .ok (.ireturn, 1) := by decide +kernel
theorem dX6_read_0 : decode cX6_read 0 = .ok (.aload_n 0, 1) := by decide +kernel
theorem dX6_read_1 : decode cX6_read 1 = .ok (.getfield 11, 3) := by decide +kernel
theorem dX6_read_4 : decode cX6_read 4 = .ok (.iload_n 1, 1) := by decide +kernel
theorem dX6_read_5 : decode cX6_read 5 = .ok (.bipush 7, 2) := by decide +kernel
theorem dX6_read_7 : decode cX6_read 7 = .ok (.imul, 1) := by decide +kernel
theorem dX6_read_8 : decode cX6_read 8 = .ok (.iload_n 2, 1) := by decide +kernel
theorem dX6_read_9 : decode cX6_read 9 = .ok (.iadd, 1) := by decide +kernel
theorem dX6_read_10 : decode cX6_read 10 = .ok (.iaload, 1) := by decide +kernel
theorem dX6_read_11 : decode cX6_read 11 = .ok (.ireturn, 1) := by decide +kernel
theorem dX6_firstPlanned_0 : decode cX6_firstPlanned 0 = .ok (.iconst 0, 1) := by decide +kernel
theorem dX6_firstPlanned_1 : decode cX6_firstPlanned 1 = .ok (.istore_n 2, 1) := by decide +kernel
theorem dX6_firstPlanned_2 : decode cX6_firstPlanned 2 = .ok (.iload_n 2, 1) := by decide +kernel
theorem dX6_firstPlanned_3 : decode cX6_firstPlanned 3 = .ok (.aload_n 0, 1) := by decide +kernel
theorem dX6_firstPlanned_4 : decode cX6_firstPlanned 4 = .ok (.getfield 41, 3) := by decide +kernel
theorem dX6_firstPlanned_7 : decode cX6_firstPlanned 7 = .ok (.if_icmp .ge 34, 3) := by decide +kernel
theorem dX6_firstPlanned_10 : decode cX6_firstPlanned 10 = .ok (.aload_n 0, 1) := by decide +kernel
theorem dX6_firstPlanned_11 : decode cX6_firstPlanned 11 = .ok (.iload_n 2, 1) := by decide +kernel
theorem dX6_firstPlanned_12 : decode cX6_firstPlanned 12 = .ok (.iconst 0, 1) := by decide +kernel
theorem dX6_firstPlanned_13 : decode cX6_firstPlanned 13 = .ok (.invokevirtual 44, 3) := by decide +kernel
theorem dX6_firstPlanned_16 : decode cX6_firstPlanned 16 = .ok (.ifCond .ne 19, 3) := by decide +kernel
theorem dX6_firstPlanned_19 : decode cX6_firstPlanned 19 = .ok (.iload_n 1, 1) := by decide +kernel
theorem dX6_firstPlanned_20 : decode cX6_firstPlanned 20 = .ok (.ifCond .eq 13, 3) := by decide +kernel
theorem dX6_firstPlanned_23 : decode cX6_firstPlanned 23 = .ok (.aload_n 0, 1) := by decide +kernel
theorem dX6_firstPlanned_24 : decode cX6_firstPlanned 24 = .ok (.iload_n 2, 1) := by decide +kernel
theorem dX6_firstPlanned_25 : decode cX6_firstPlanned 25 = .ok (.iconst 4, 1) := by decide +kernel
theorem dX6_firstPlanned_26 : decode cX6_firstPlanned 26 = .ok (.invokevirtual 44, 3) := by decide +kernel
theorem dX6_firstPlanned_29 : decode cX6_firstPlanned 29 = .ok (.iconst 1, 1) := by decide +kernel
theorem dX6_firstPlanned_30 : decode cX6_firstPlanned 30 = .ok (.if_icmp .ne 5, 3) := by decide +kernel
theorem dX6_firstPlanned_33 : decode cX6_firstPlanned 33 = .ok (.iload_n 2, 1) := by decide +kernel
theorem dX6_firstPlanned_34 : decode cX6_firstPlanned 34 = .ok (.ireturn, 1) := by decide +kernel
theorem dX6_firstPlanned_35 : decode cX6_firstPlanned 35 = .ok (.iinc 2 1, 3) := by decide +kernel
theorem dX6_firstPlanned_38 : decode cX6_firstPlanned 38 = .ok (.goto (-36), 3) := by decide +kernel
theorem dX6_firstPlanned_41 : decode cX6_firstPlanned 41 = .ok (.iconst (-1), 1) := by decide +kernel
theorem dX6_firstPlanned_42 : decode cX6_firstPlanned 42 = .ok (.ireturn, 1) := by decide +kernel
theorem dX6_finish_0 : decode cX6_finish 0 = .ok (.aload_n 0, 1) := by decide +kernel
theorem dX6_finish_1 : decode cX6_finish 1 = .ok (.getfield 19, 3) := by decide +kernel
theorem dX6_finish_4 : decode cX6_finish 4 = .ok (.iconst (-1), 1) := by decide +kernel
theorem dX6_finish_5 : decode cX6_finish 5 = .ok (.if_icmp .eq 18, 3) := by decide +kernel
theorem dX6_finish_8 : decode cX6_finish 8 = .ok (.aload_n 0, 1) := by decide +kernel
theorem dX6_finish_9 : decode cX6_finish 9 = .ok (.getfield 11, 3) := by decide +kernel
theorem dX6_finish_12 : decode cX6_finish 12 = .ok (.aload_n 0, 1) := by decide +kernel
theorem dX6_finish_13 : decode cX6_finish 13 = .ok (.getfield 19, 3) := by decide +kernel
theorem dX6_finish_16 : decode cX6_finish 16 = .ok (.bipush 7, 2) := by decide +kernel
theorem dX6_finish_18 : decode cX6_finish 18 = .ok (.imul, 1) := by decide +kernel
theorem dX6_finish_19 : decode cX6_finish 19 = .ok (.iconst 0, 1) := by decide +kernel
theorem dX6_finish_20 : decode cX6_finish 20 = .ok (.iadd, 1) := by decide +kernel
theorem dX6_finish_21 : decode cX6_finish 21 = .ok (.iload_n 1, 1) := by decide +kernel
theorem dX6_finish_22 : decode cX6_finish 22 = .ok (.iastore, 1) := by decide +kernel
theorem dX6_finish_23 : decode cX6_finish 23 = .ok (.aload_n 0, 1) := by decide +kernel
theorem dX6_finish_24 : decode cX6_finish 24 = .ok (.iconst (-1), 1) := by decide +kernel
theorem dX6_finish_25 : decode cX6_finish 25 = .ok (.putfield 19, 3) := by decide +kernel
theorem dX6_finish_28 : decode cX6_finish 28 = .ok (.return_, 1) := by decide +kernel
theorem dX6_start_0 : decode cX6_start 0 = .ok (.aload_n 0, 1) := by decide +kernel
theorem dX6_start_1 : decode cX6_start 1 = .ok (.iload_n 1, 1) := by decide +kernel
theorem dX6_start_2 : decode cX6_start 2 = .ok (.putfield 19, 3) := by decide +kernel
theorem dX6_start_5 : decode cX6_start 5 = .ok (.aload_n 0, 1) := by decide +kernel
theorem dX6_start_6 : decode cX6_start 6 = .ok (.getfield 11, 3) := by decide +kernel
theorem dX6_start_9 : decode cX6_start 9 = .ok (.iload_n 1, 1) := by decide +kernel
theorem dX6_start_10 : decode cX6_start 10 = .ok (.bipush 7, 2) := by decide +kernel
theorem dX6_start_12 : decode cX6_start 12 = .ok (.imul, 1) := by decide +kernel
theorem dX6_start_13 : decode cX6_start 13 = .ok (.iconst 0, 1) := by decide +kernel
theorem dX6_start_14 : decode cX6_start 14 = .ok (.iadd, 1) := by decide +kernel
theorem dX6_start_15 : decode cX6_start 15 = .ok (.iconst 1, 1) := by decide +kernel
theorem dX6_start_16 : decode cX6_start 16 = .ok (.iastore, 1) := by decide +kernel
theorem dX6_start_17 : decode cX6_start 17 = .ok (.aload_n 0, 1) := by decide +kernel
theorem dX6_start_18 : decode cX6_start 18 = .ok (.getfield 11, 3) := by decide +kernel
theorem dX6_start_21 : decode cX6_start 21 = .ok (.iload_n 1, 1) := by decide +kernel
theorem dX6_start_22 : decode cX6_start 22 = .ok (.bipush 7, 2) := by decide +kernel
theorem dX6_start_24 : decode cX6_start 24 = .ok (.imul, 1) := by decide +kernel
theorem dX6_start_25 : decode cX6_start 25 = .ok (.iconst 3, 1) := by decide +kernel
theorem dX6_start_26 : decode cX6_start 26 = .ok (.iadd, 1) := by decide +kernel
theorem dX6_start_27 : decode cX6_start 27 = .ok (.iload_n 2, 1) := by decide +kernel
theorem dX6_start_28 : decode cX6_start 28 = .ok (.iastore, 1) := by decide +kernel
theorem dX6_start_29 : decode cX6_start 29 = .ok (.return_, 1) := by decide +kernel
theorem dX6_startNext_0 : decode cX6_startNext 0 = .ok (.aload_n 0, 1) := by decide +kernel
theorem dX6_startNext_1 : decode cX6_startNext 1 = .ok (.iconst 0, 1) := by decide +kernel
theorem dX6_startNext_2 : decode cX6_startNext 2 = .ok (.invokevirtual 48, 3) := by decide +kernel
theorem dX6_startNext_5 : decode cX6_startNext 5 = .ok (.istore_n 3, 1) := by decide +kernel
theorem dX6_startNext_6 : decode cX6_startNext 6 = .ok (.iload_n 3, 1) := by decide +kernel
theorem dX6_startNext_7 : decode cX6_startNext 7 = .ok (.iconst (-1), 1) := by decide +kernel
theorem dX6_startNext_8 : decode cX6_startNext 8 = .ok (.if_icmp .eq 13, 3) := by decide +kernel
theorem dX6_startNext_11 : decode cX6_startNext 11 = .ok (.aload_n 0, 1) := by decide +kernel
theorem dX6_startNext_12 : decode cX6_startNext 12 = .ok (.iload_n 3, 1) := by decide +kernel
theorem dX6_startNext_13 : decode cX6_startNext 13 = .ok (.iconst 4, 1) := by decide +kernel
theorem dX6_startNext_14 : decode cX6_startNext 14 = .ok (.invokevirtual 44, 3) := by decide +kernel
theorem dX6_startNext_17 : decode cX6_startNext 17 = .ok (.iconst 1, 1) := by decide +kernel
theorem dX6_startNext_18 : decode cX6_startNext 18 = .ok (.if_icmp .ne 4, 3) := by decide +kernel
theorem dX6_startNext_21 : decode cX6_startNext 21 = .ok (.return_, 1) := by decide +kernel
theorem dX6_startNext_22 : decode cX6_startNext 22 = .ok (.iload_n 2, 1) := by decide +kernel
theorem dX6_startNext_23 : decode cX6_startNext 23 = .ok (.ifCond .ne 13, 3) := by decide +kernel
theorem dX6_startNext_26 : decode cX6_startNext 26 = .ok (.aload_n 0, 1) := by decide +kernel
theorem dX6_startNext_27 : decode cX6_startNext 27 = .ok (.iload_n 3, 1) := by decide +kernel
theorem dX6_startNext_28 : decode cX6_startNext 28 = .ok (.iconst 4, 1) := by decide +kernel
theorem dX6_startNext_29 : decode cX6_startNext 29 = .ok (.invokevirtual 44, 3) := by decide +kernel
theorem dX6_startNext_32 : decode cX6_startNext 32 = .ok (.iconst 2, 1) := by decide +kernel
theorem dX6_startNext_33 : decode cX6_startNext 33 = .ok (.if_icmp .eq 9, 3) := by decide +kernel
theorem dX6_startNext_36 : decode cX6_startNext 36 = .ok (.aload_n 0, 1) := by decide +kernel
theorem dX6_startNext_37 : decode cX6_startNext 37 = .ok (.iload_n 3, 1) := by decide +kernel
theorem dX6_startNext_38 : decode cX6_startNext 38 = .ok (.iload_n 1, 1) := by decide +kernel
theorem dX6_startNext_39 : decode cX6_startNext 39 = .ok (.invokevirtual 60, 3) := by decide +kernel
theorem dX6_startNext_42 : decode cX6_startNext 42 = .ok (.return_, 1) := by decide +kernel
theorem dX6_give_0 : decode cX6_give 0 = .ok (.aload_n 0, 1) := by decide +kernel
theorem dX6_give_1 : decode cX6_give 1 = .ok (.getfield 19, 3) := by decide +kernel
theorem dX6_give_4 : decode cX6_give 4 = .ok (.iconst (-1), 1) := by decide +kernel
theorem dX6_give_5 : decode cX6_give 5 = .ok (.if_icmp .eq 11, 3) := by decide +kernel
theorem dX6_give_8 : decode cX6_give 8 = .ok (.aload_n 0, 1) := by decide +kernel
theorem dX6_give_9 : decode cX6_give 9 = .ok (.iload_n 1, 1) := by decide +kernel
theorem dX6_give_10 : decode cX6_give 10 = .ok (.invokevirtual 81, 3) := by decide +kernel
theorem dX6_give_13 : decode cX6_give 13 = .ok (.goto 8, 3) := by decide +kernel
theorem dX6_give_16 : decode cX6_give 16 = .ok (.aload_n 0, 1) := by decide +kernel
theorem dX6_give_17 : decode cX6_give 17 = .ok (.iload_n 1, 1) := by decide +kernel
theorem dX6_give_18 : decode cX6_give 18 = .ok (.invokevirtual 84, 3) := by decide +kernel
theorem dX6_give_21 : decode cX6_give 21 = .ok (.istore_n 2, 1) := by decide +kernel
theorem dX6_give_22 : decode cX6_give 22 = .ok (.aload_n 0, 1) := by decide +kernel
theorem dX6_give_23 : decode cX6_give 23 = .ok (.getfield 87, 3) := by decide +kernel
theorem dX6_give_26 : decode cX6_give 26 = .ok (.istore_n 3, 1) := by decide +kernel
theorem dX6_give_27 : decode cX6_give 27 = .ok (.iload_n 1, 1) := by decide +kernel
theorem dX6_give_28 : decode cX6_give 28 = .ok (.aload_n 0, 1) := by decide +kernel
theorem dX6_give_29 : decode cX6_give 29 = .ok (.getfield 22, 3) := by decide +kernel
theorem dX6_give_32 : decode cX6_give 32 = .ok (.aload_n 0, 1) := by decide +kernel
theorem dX6_give_33 : decode cX6_give 33 = .ok (.getfield 87, 3) := by decide +kernel
theorem dX6_give_36 : decode cX6_give 36 = .ok (.iaload, 1) := by decide +kernel
theorem dX6_give_37 : decode cX6_give 37 = .ok (.if_icmp .lt 40, 3) := by decide +kernel
theorem dX6_give_40 : decode cX6_give 40 = .ok (.iload_n 1, 1) := by decide +kernel
theorem dX6_give_41 : decode cX6_give 41 = .ok (.aload_n 0, 1) := by decide +kernel
theorem dX6_give_42 : decode cX6_give 42 = .ok (.getfield 25, 3) := by decide +kernel
theorem dX6_give_45 : decode cX6_give 45 = .ok (.aload_n 0, 1) := by decide +kernel
theorem dX6_give_46 : decode cX6_give 46 = .ok (.getfield 87, 3) := by decide +kernel
theorem dX6_give_49 : decode cX6_give 49 = .ok (.iaload, 1) := by decide +kernel
theorem dX6_give_50 : decode cX6_give 50 = .ok (.if_icmp .ge 27, 3) := by decide +kernel
theorem dX6_give_53 : decode cX6_give 53 = .ok (.aload_n 0, 1) := by decide +kernel
theorem dX6_give_54 : decode cX6_give 54 = .ok (.iload_n 1, 1) := by decide +kernel
theorem dX6_give_55 : decode cX6_give 55 = .ok (.iconst 0, 1) := by decide +kernel
theorem dX6_give_56 : decode cX6_give 56 = .ok (.iconst (-1), 1) := by decide +kernel
theorem dX6_give_57 : decode cX6_give 57 = .ok (.iconst (-1), 1) := by decide +kernel
theorem dX6_give_58 : decode cX6_give 58 = .ok (.iconst (-1), 1) := by decide +kernel
theorem dX6_give_59 : decode cX6_give 59 = .ok (.invokevirtual 90, 3) := by decide +kernel
theorem dX6_give_62 : decode cX6_give 62 = .ok (.aload_n 0, 1) := by decide +kernel
theorem dX6_give_63 : decode cX6_give 63 = .ok (.iconst 0, 1) := by decide +kernel
theorem dX6_give_64 : decode cX6_give 64 = .ok (.putfield 94, 3) := by decide +kernel
theorem dX6_give_67 : decode cX6_give 67 = .ok (.aload_n 0, 1) := by decide +kernel
theorem dX6_give_68 : decode cX6_give 68 = .ok (.iconst 1, 1) := by decide +kernel
theorem dX6_give_69 : decode cX6_give 69 = .ok (.aload_n 0, 1) := by decide +kernel
theorem dX6_give_70 : decode cX6_give 70 = .ok (.getfield 87, 3) := by decide +kernel
theorem dX6_give_73 : decode cX6_give 73 = .ok (.isub, 1) := by decide +kernel
theorem dX6_give_74 : decode cX6_give 74 = .ok (.putfield 87, 3) := by decide +kernel
theorem dX6_give_77 : decode cX6_give 77 = .ok (.aload_n 0, 1) := by decide +kernel
theorem dX6_give_78 : decode cX6_give 78 = .ok (.getfield 31, 3) := by decide +kernel
theorem dX6_give_81 : decode cX6_give 81 = .ok (.iload_n 1, 1) := by decide +kernel
theorem dX6_give_82 : decode cX6_give 82 = .ok (.iconst 5, 1) := by decide +kernel
theorem dX6_give_83 : decode cX6_give 83 = .ok (.imul, 1) := by decide +kernel
theorem dX6_give_84 : decode cX6_give 84 = .ok (.iconst 4, 1) := by decide +kernel
theorem dX6_give_85 : decode cX6_give 85 = .ok (.iadd, 1) := by decide +kernel
theorem dX6_give_86 : decode cX6_give 86 = .ok (.iload_n 3, 1) := by decide +kernel
theorem dX6_give_87 : decode cX6_give 87 = .ok (.iastore, 1) := by decide +kernel
theorem dX6_give_88 : decode cX6_give 88 = .ok (.aload_n 0, 1) := by decide +kernel
theorem dX6_give_89 : decode cX6_give 89 = .ok (.iload_n 1, 1) := by decide +kernel
theorem dX6_give_90 : decode cX6_give 90 = .ok (.iload_n 2, 1) := by decide +kernel
theorem dX6_give_91 : decode cX6_give 91 = .ok (.invokevirtual 97, 3) := by decide +kernel
theorem dX6_give_94 : decode cX6_give 94 = .ok (.ifCond .eq 20, 3) := by decide +kernel
theorem dX6_give_97 : decode cX6_give 97 = .ok (.aload_n 0, 1) := by decide +kernel
theorem dX6_give_98 : decode cX6_give 98 = .ok (.getfield 34, 3) := by decide +kernel
theorem dX6_give_101 : decode cX6_give 101 = .ok (.aload_n 0, 1) := by decide +kernel
theorem dX6_give_102 : decode cX6_give 102 = .ok (.dup, 1) := by decide +kernel
theorem dX6_give_103 : decode cX6_give 103 = .ok (.getfield 78, 3) := by decide +kernel
theorem dX6_give_106 : decode cX6_give 106 = .ok (.dup_x1, 1) := by decide +kernel
theorem dX6_give_107 : decode cX6_give 107 = .ok (.iconst 1, 1) := by decide +kernel
theorem dX6_give_108 : decode cX6_give 108 = .ok (.iadd, 1) := by decide +kernel
theorem dX6_give_109 : decode cX6_give 109 = .ok (.putfield 78, 3) := by decide +kernel
theorem dX6_give_112 : decode cX6_give 112 = .ok (.iload_n 1, 1) := by decide +kernel
theorem dX6_give_113 : decode cX6_give 113 = .ok (.iastore, 1) := by decide +kernel
theorem dX6_give_114 : decode cX6_give 114 = .ok (.return_, 1) := by decide +kernel
theorem dX6_giveEvent_0 : decode cX6_giveEvent 0 = .ok (.aload_n 0, 1) := by decide +kernel
theorem dX6_giveEvent_1 : decode cX6_giveEvent 1 = .ok (.iconst (-1), 1) := by decide +kernel
theorem dX6_giveEvent_2 : decode cX6_giveEvent 2 = .ok (.putfield 28, 3) := by decide +kernel
theorem dX6_giveEvent_5 : decode cX6_giveEvent 5 = .ok (.aload_n 0, 1) := by decide +kernel
theorem dX6_giveEvent_6 : decode cX6_giveEvent 6 = .ok (.aload_n 0, 1) := by decide +kernel
theorem dX6_giveEvent_7 : decode cX6_giveEvent 7 = .ok (.getfield 19, 3) := by decide +kernel
theorem dX6_giveEvent_10 : decode cX6_giveEvent 10 = .ok (.iconst 1, 1) := by decide +kernel
theorem dX6_giveEvent_11 : decode cX6_giveEvent 11 = .ok (.invokevirtual 44, 3) := by decide +kernel
theorem dX6_giveEvent_14 : decode cX6_giveEvent 14 = .ok (.istore_n 2, 1) := by decide +kernel
theorem dX6_giveEvent_15 : decode cX6_giveEvent 15 = .ok (.aload_n 0, 1) := by decide +kernel
theorem dX6_giveEvent_16 : decode cX6_giveEvent 16 = .ok (.aload_n 0, 1) := by decide +kernel
theorem dX6_giveEvent_17 : decode cX6_giveEvent 17 = .ok (.getfield 19, 3) := by decide +kernel
theorem dX6_giveEvent_20 : decode cX6_giveEvent 20 = .ok (.iconst 2, 1) := by decide +kernel
theorem dX6_giveEvent_21 : decode cX6_giveEvent 21 = .ok (.invokevirtual 44, 3) := by decide +kernel
theorem dX6_giveEvent_24 : decode cX6_giveEvent 24 = .ok (.istore_n 3, 1) := by decide +kernel
theorem dX6_giveEvent_25 : decode cX6_giveEvent 25 = .ok (.aload_n 0, 1) := by decide +kernel
theorem dX6_giveEvent_26 : decode cX6_giveEvent 26 = .ok (.aload_n 0, 1) := by decide +kernel
theorem dX6_giveEvent_27 : decode cX6_giveEvent 27 = .ok (.getfield 19, 3) := by decide +kernel
theorem dX6_giveEvent_30 : decode cX6_giveEvent 30 = .ok (.bipush 6, 2) := by decide +kernel
theorem dX6_giveEvent_32 : decode cX6_giveEvent 32 = .ok (.invokevirtual 44, 3) := by decide +kernel
theorem dX6_giveEvent_35 : decode cX6_giveEvent 35 = .ok (.istore 4, 2) := by decide +kernel
theorem dX6_giveEvent_37 : decode cX6_giveEvent 37 = .ok (.aload_n 0, 1) := by decide +kernel
theorem dX6_giveEvent_38 : decode cX6_giveEvent 38 = .ok (.iload_n 1, 1) := by decide +kernel
theorem dX6_giveEvent_39 : decode cX6_giveEvent 39 = .ok (.iconst 1, 1) := by decide +kernel
theorem dX6_giveEvent_40 : decode cX6_giveEvent 40 = .ok (.aload_n 0, 1) := by decide +kernel
theorem dX6_giveEvent_41 : decode cX6_giveEvent 41 = .ok (.getfield 19, 3) := by decide +kernel
theorem dX6_giveEvent_44 : decode cX6_giveEvent 44 = .ok (.iload 4, 2) := by decide +kernel
theorem dX6_giveEvent_46 : decode cX6_giveEvent 46 = .ok (.iload_n 2, 1) := by decide +kernel
theorem dX6_giveEvent_47 : decode cX6_giveEvent 47 = .ok (.iload_n 3, 1) := by decide +kernel
theorem dX6_giveEvent_48 : decode cX6_giveEvent 48 = .ok (.iconst 1, 1) := by decide +kernel
theorem dX6_giveEvent_49 : decode cX6_giveEvent 49 = .ok (.isub, 1) := by decide +kernel
theorem dX6_giveEvent_50 : decode cX6_giveEvent 50 = .ok (.invokestatic 101, 3) := by decide +kernel
theorem dX6_giveEvent_53 : decode cX6_giveEvent 53 = .ok (.iconst 1, 1) := by decide +kernel
theorem dX6_giveEvent_54 : decode cX6_giveEvent 54 = .ok (.aload_n 0, 1) := by decide +kernel
theorem dX6_giveEvent_55 : decode cX6_giveEvent 55 = .ok (.getfield 37, 3) := by decide +kernel
theorem dX6_giveEvent_58 : decode cX6_giveEvent 58 = .ok (.getfield 106, 3) := by decide +kernel
theorem dX6_giveEvent_61 : decode cX6_giveEvent 61 = .ok (.iload 4, 2) := by decide +kernel
theorem dX6_giveEvent_63 : decode cX6_giveEvent 63 = .ok (.iaload, 1) := by decide +kernel
theorem dX6_giveEvent_64 : decode cX6_giveEvent 64 = .ok (.invokestatic 111, 3) := by decide +kernel
theorem dX6_giveEvent_67 : decode cX6_giveEvent 67 = .ok (.irem, 1) := by decide +kernel
theorem dX6_giveEvent_68 : decode cX6_giveEvent 68 = .ok (.invokevirtual 90, 3) := by decide +kernel
theorem dX6_giveEvent_71 : decode cX6_giveEvent 71 = .ok (.aload_n 0, 1) := by decide +kernel
theorem dX6_giveEvent_72 : decode cX6_giveEvent 72 = .ok (.aload_n 0, 1) := by decide +kernel
theorem dX6_giveEvent_73 : decode cX6_giveEvent 73 = .ok (.aload_n 0, 1) := by decide +kernel
theorem dX6_giveEvent_74 : decode cX6_giveEvent 74 = .ok (.getfield 19, 3) := by decide +kernel
theorem dX6_giveEvent_77 : decode cX6_giveEvent 77 = .ok (.iconst 4, 1) := by decide +kernel
theorem dX6_giveEvent_78 : decode cX6_giveEvent 78 = .ok (.invokevirtual 44, 3) := by decide +kernel
theorem dX6_giveEvent_81 : decode cX6_giveEvent 81 = .ok (.iconst 3, 1) := by decide +kernel
theorem dX6_giveEvent_82 : decode cX6_giveEvent 82 = .ok (.if_icmp .ne 13, 3) := by decide +kernel
theorem dX6_giveEvent_85 : decode cX6_giveEvent 85 = .ok (.iconst 0, 1) := by decide +kernel
theorem dX6_giveEvent_86 : decode cX6_giveEvent 86 = .ok (.iload_n 3, 1) := by decide +kernel
theorem dX6_giveEvent_87 : decode cX6_giveEvent 87 = .ok (.iload_n 2, 1) := by decide +kernel
theorem dX6_giveEvent_88 : decode cX6_giveEvent 88 = .ok (.isub, 1) := by decide +kernel
theorem dX6_giveEvent_89 : decode cX6_giveEvent 89 = .ok (.invokestatic 111, 3) := by decide +kernel
theorem dX6_giveEvent_92 : decode cX6_giveEvent 92 = .ok (.goto 4, 3) := by decide +kernel
theorem dX6_giveEvent_95 : decode cX6_giveEvent 95 = .ok (.iconst 0, 1) := by decide +kernel
theorem dX6_giveEvent_96 : decode cX6_giveEvent 96 = .ok (.putfield 94, 3) := by decide +kernel
theorem dX6_giveEvent_99 : decode cX6_giveEvent 99 = .ok (.aload_n 0, 1) := by decide +kernel
theorem dX6_giveEvent_100 : decode cX6_giveEvent 100 = .ok (.getfield 11, 3) := by decide +kernel
theorem dX6_giveEvent_103 : decode cX6_giveEvent 103 = .ok (.aload_n 0, 1) := by decide +kernel
theorem dX6_giveEvent_104 : decode cX6_giveEvent 104 = .ok (.getfield 19, 3) := by decide +kernel
theorem dX6_giveEvent_107 : decode cX6_giveEvent 107 = .ok (.bipush 7, 2) := by decide +kernel
theorem dX6_giveEvent_109 : decode cX6_giveEvent 109 = .ok (.imul, 1) := by decide +kernel
theorem dX6_giveEvent_110 : decode cX6_giveEvent 110 = .ok (.iconst 1, 1) := by decide +kernel
theorem dX6_giveEvent_111 : decode cX6_giveEvent 111 = .ok (.iadd, 1) := by decide +kernel
theorem dX6_giveEvent_112 : decode cX6_giveEvent 112 = .ok (.iload_n 2, 1) := by decide +kernel
theorem dX6_giveEvent_113 : decode cX6_giveEvent 113 = .ok (.iconst 1, 1) := by decide +kernel
theorem dX6_giveEvent_114 : decode cX6_giveEvent 114 = .ok (.iadd, 1) := by decide +kernel
theorem dX6_giveEvent_115 : decode cX6_giveEvent 115 = .ok (.iastore, 1) := by decide +kernel
theorem dX6_giveEvent_116 : decode cX6_giveEvent 116 = .ok (.iload_n 2, 1) := by decide +kernel
theorem dX6_giveEvent_117 : decode cX6_giveEvent 117 = .ok (.ifCond .ne 7, 3) := by decide +kernel
theorem dX6_giveEvent_120 : decode cX6_giveEvent 120 = .ok (.iconst 1, 1) := by decide +kernel
theorem dX6_giveEvent_121 : decode cX6_giveEvent 121 = .ok (.goto 4, 3) := by decide +kernel
theorem dX6_giveEvent_124 : decode cX6_giveEvent 124 = .ok (.iconst 0, 1) := by decide +kernel
theorem dX6_giveEvent_125 : decode cX6_giveEvent 125 = .ok (.ireturn, 1) := by decide +kernel
theorem dX6_giveFill_0 : decode cX6_giveFill 0 = .ok (.aload_n 0, 1) := by decide +kernel
theorem dX6_giveFill_1 : decode cX6_giveFill 1 = .ok (.iconst 0, 1) := by decide +kernel
theorem dX6_giveFill_2 : decode cX6_giveFill 2 = .ok (.putfield 94, 3) := by decide +kernel
theorem dX6_giveFill_5 : decode cX6_giveFill 5 = .ok (.aload_n 0, 1) := by decide +kernel
theorem dX6_giveFill_6 : decode cX6_giveFill 6 = .ok (.getfield 28, 3) := by decide +kernel
theorem dX6_giveFill_9 : decode cX6_giveFill 9 = .ok (.iconst (-1), 1) := by decide +kernel
theorem dX6_giveFill_10 : decode cX6_giveFill 10 = .ok (.if_icmp .ne 7, 3) := by decide +kernel
theorem dX6_giveFill_13 : decode cX6_giveFill 13 = .ok (.iconst 1, 1) := by decide +kernel
theorem dX6_giveFill_14 : decode cX6_giveFill 14 = .ok (.goto 4, 3) := by decide +kernel
theorem dX6_giveFill_17 : decode cX6_giveFill 17 = .ok (.iconst 0, 1) := by decide +kernel
theorem dX6_giveFill_18 : decode cX6_giveFill 18 = .ok (.istore_n 2, 1) := by decide +kernel
theorem dX6_giveFill_19 : decode cX6_giveFill 19 = .ok (.iload_n 2, 1) := by decide +kernel
theorem dX6_giveFill_20 : decode cX6_giveFill 20 = .ok (.ifCond .eq 42, 3) := by decide +kernel
theorem dX6_giveFill_23 : decode cX6_giveFill 23 = .ok (.aload_n 0, 1) := by decide +kernel
theorem dX6_giveFill_24 : decode cX6_giveFill 24 = .ok (.iconst 1, 1) := by decide +kernel
theorem dX6_giveFill_25 : decode cX6_giveFill 25 = .ok (.invokevirtual 48, 3) := by decide +kernel
theorem dX6_giveFill_28 : decode cX6_giveFill 28 = .ok (.istore_n 3, 1) := by decide +kernel
theorem dX6_giveFill_29 : decode cX6_giveFill 29 = .ok (.aload_n 0, 1) := by decide +kernel
theorem dX6_giveFill_30 : decode cX6_giveFill 30 = .ok (.aload_n 0, 1) := by decide +kernel
theorem dX6_giveFill_31 : decode cX6_giveFill 31 = .ok (.getfield 37, 3) := by decide +kernel
theorem dX6_giveFill_34 : decode cX6_giveFill 34 = .ok (.iload_n 3, 1) := by decide +kernel
theorem dX6_giveFill_35 : decode cX6_giveFill 35 = .ok (.iconst (-1), 1) := by decide +kernel
theorem dX6_giveFill_36 : decode cX6_giveFill 36 = .ok (.if_icmp .ne 7, 3) := by decide +kernel
theorem dX6_giveFill_39 : decode cX6_giveFill 39 = .ok (.iconst (-1), 1) := by decide +kernel
theorem dX6_giveFill_40 : decode cX6_giveFill 40 = .ok (.goto 11, 3) := by decide +kernel
theorem dX6_giveFill_43 : decode cX6_giveFill 43 = .ok (.aload_n 0, 1) := by decide +kernel
theorem dX6_giveFill_44 : decode cX6_giveFill 44 = .ok (.iload_n 3, 1) := by decide +kernel
theorem dX6_giveFill_45 : decode cX6_giveFill 45 = .ok (.iconst 5, 1) := by decide +kernel
theorem dX6_giveFill_46 : decode cX6_giveFill 46 = .ok (.invokevirtual 44, 3) := by decide +kernel
theorem dX6_giveFill_49 : decode cX6_giveFill 49 = .ok (.iload_n 1, 1) := by decide +kernel
theorem dX6_giveFill_50 : decode cX6_giveFill 50 = .ok (.isub, 1) := by decide +kernel
theorem dX6_giveFill_51 : decode cX6_giveFill 51 = .ok (.invokevirtual 114, 3) := by decide +kernel
theorem dX6_giveFill_54 : decode cX6_giveFill 54 = .ok (.putfield 28, 3) := by decide +kernel
theorem dX6_giveFill_57 : decode cX6_giveFill 57 = .ok (.aload_n 0, 1) := by decide +kernel
theorem dX6_giveFill_58 : decode cX6_giveFill 58 = .ok (.iconst 0, 1) := by decide +kernel
theorem dX6_giveFill_59 : decode cX6_giveFill 59 = .ok (.putfield 118, 3) := by decide +kernel
theorem dX6_giveFill_62 : decode cX6_giveFill 62 = .ok (.aload_n 0, 1) := by decide +kernel
theorem dX6_giveFill_63 : decode cX6_giveFill 63 = .ok (.getfield 28, 3) := by decide +kernel
theorem dX6_giveFill_66 : decode cX6_giveFill 66 = .ok (.iconst (-1), 1) := by decide +kernel
theorem dX6_giveFill_67 : decode cX6_giveFill 67 = .ok (.if_icmp .ne 14, 3) := by decide +kernel
theorem dX6_giveFill_70 : decode cX6_giveFill 70 = .ok (.aload_n 0, 1) := by decide +kernel
theorem dX6_giveFill_71 : decode cX6_giveFill 71 = .ok (.iload_n 1, 1) := by decide +kernel
theorem dX6_giveFill_72 : decode cX6_giveFill 72 = .ok (.iconst 0, 1) := by decide +kernel
theorem dX6_giveFill_73 : decode cX6_giveFill 73 = .ok (.iconst (-1), 1) := by decide +kernel
theorem dX6_giveFill_74 : decode cX6_giveFill 74 = .ok (.iconst (-1), 1) := by decide +kernel
theorem dX6_giveFill_75 : decode cX6_giveFill 75 = .ok (.iconst (-1), 1) := by decide +kernel
theorem dX6_giveFill_76 : decode cX6_giveFill 76 = .ok (.invokevirtual 90, 3) := by decide +kernel
theorem dX6_giveFill_79 : decode cX6_giveFill 79 = .ok (.iconst 0, 1) := by decide +kernel
theorem dX6_giveFill_80 : decode cX6_giveFill 80 = .ok (.ireturn, 1) := by decide +kernel
theorem dX6_giveFill_81 : decode cX6_giveFill 81 = .ok (.aload_n 0, 1) := by decide +kernel
theorem dX6_giveFill_82 : decode cX6_giveFill 82 = .ok (.getfield 37, 3) := by decide +kernel
theorem dX6_giveFill_85 : decode cX6_giveFill 85 = .ok (.getfield 121, 3) := by decide +kernel
theorem dX6_giveFill_88 : decode cX6_giveFill 88 = .ok (.aload_n 0, 1) := by decide +kernel
theorem dX6_giveFill_89 : decode cX6_giveFill 89 = .ok (.getfield 28, 3) := by decide +kernel
theorem dX6_giveFill_92 : decode cX6_giveFill 92 = .ok (.iaload, 1) := by decide +kernel
theorem dX6_giveFill_93 : decode cX6_giveFill 93 = .ok (.istore_n 3, 1) := by decide +kernel
theorem dX6_giveFill_94 : decode cX6_giveFill 94 = .ok (.aload_n 0, 1) := by decide +kernel
theorem dX6_giveFill_95 : decode cX6_giveFill 95 = .ok (.iload_n 1, 1) := by decide +kernel
theorem dX6_giveFill_96 : decode cX6_giveFill 96 = .ok (.iconst 2, 1) := by decide +kernel
theorem dX6_giveFill_97 : decode cX6_giveFill 97 = .ok (.aload_n 0, 1) := by decide +kernel
theorem dX6_giveFill_98 : decode cX6_giveFill 98 = .ok (.getfield 28, 3) := by decide +kernel
theorem dX6_giveFill_101 : decode cX6_giveFill 101 = .ok (.iload_n 3, 1) := by decide +kernel
theorem dX6_giveFill_102 : decode cX6_giveFill 102 = .ok (.aload_n 0, 1) := by decide +kernel
theorem dX6_giveFill_103 : decode cX6_giveFill 103 = .ok (.dup, 1) := by decide +kernel
theorem dX6_giveFill_104 : decode cX6_giveFill 104 = .ok (.getfield 118, 3) := by decide +kernel
theorem dX6_giveFill_107 : decode cX6_giveFill 107 = .ok (.dup_x1, 1) := by decide +kernel
theorem dX6_giveFill_108 : decode cX6_giveFill 108 = .ok (.iconst 1, 1) := by decide +kernel
theorem dX6_giveFill_109 : decode cX6_giveFill 109 = .ok (.iadd, 1) := by decide +kernel
theorem dX6_giveFill_110 : decode cX6_giveFill 110 = .ok (.putfield 118, 3) := by decide +kernel
theorem dX6_giveFill_113 : decode cX6_giveFill 113 = .ok (.invokevirtual 90, 3) := by decide +kernel
theorem dX6_giveFill_116 : decode cX6_giveFill 116 = .ok (.aload_n 0, 1) := by decide +kernel
theorem dX6_giveFill_117 : decode cX6_giveFill 117 = .ok (.getfield 118, 3) := by decide +kernel
theorem dX6_giveFill_120 : decode cX6_giveFill 120 = .ok (.aload_n 0, 1) := by decide +kernel
theorem dX6_giveFill_121 : decode cX6_giveFill 121 = .ok (.getfield 37, 3) := by decide +kernel
theorem dX6_giveFill_124 : decode cX6_giveFill 124 = .ok (.getfield 106, 3) := by decide +kernel
theorem dX6_giveFill_127 : decode cX6_giveFill 127 = .ok (.iload_n 3, 1) := by decide +kernel
theorem dX6_giveFill_128 : decode cX6_giveFill 128 = .ok (.iaload, 1) := by decide +kernel
theorem dX6_giveFill_129 : decode cX6_giveFill 129 = .ok (.if_icmp .lt 8, 3) := by decide +kernel
theorem dX6_giveFill_132 : decode cX6_giveFill 132 = .ok (.aload_n 0, 1) := by decide +kernel
theorem dX6_giveFill_133 : decode cX6_giveFill 133 = .ok (.iconst (-1), 1) := by decide +kernel
theorem dX6_giveFill_134 : decode cX6_giveFill 134 = .ok (.putfield 28, 3) := by decide +kernel
theorem dX6_giveFill_137 : decode cX6_giveFill 137 = .ok (.iload_n 2, 1) := by decide +kernel
theorem dX6_giveFill_138 : decode cX6_giveFill 138 = .ok (.ireturn, 1) := by decide +kernel
theorem dX6_put_0 : decode cX6_put 0 = .ok (.iload_n 1, 1) := by decide +kernel
theorem dX6_put_1 : decode cX6_put 1 = .ok (.iconst 5, 1) := by decide +kernel
theorem dX6_put_2 : decode cX6_put 2 = .ok (.imul, 1) := by decide +kernel
theorem dX6_put_3 : decode cX6_put 3 = .ok (.istore 6, 2) := by decide +kernel
theorem dX6_put_5 : decode cX6_put 5 = .ok (.aload_n 0, 1) := by decide +kernel
theorem dX6_put_6 : decode cX6_put 6 = .ok (.getfield 31, 3) := by decide +kernel
theorem dX6_put_9 : decode cX6_put 9 = .ok (.iload 6, 2) := by decide +kernel
theorem dX6_put_11 : decode cX6_put 11 = .ok (.iload_n 2, 1) := by decide +kernel
theorem dX6_put_12 : decode cX6_put 12 = .ok (.iastore, 1) := by decide +kernel
theorem dX6_put_13 : decode cX6_put 13 = .ok (.aload_n 0, 1) := by decide +kernel
theorem dX6_put_14 : decode cX6_put 14 = .ok (.getfield 31, 3) := by decide +kernel
theorem dX6_put_17 : decode cX6_put 17 = .ok (.iload 6, 2) := by decide +kernel
theorem dX6_put_19 : decode cX6_put 19 = .ok (.iconst 1, 1) := by decide +kernel
theorem dX6_put_20 : decode cX6_put 20 = .ok (.iadd, 1) := by decide +kernel
theorem dX6_put_21 : decode cX6_put 21 = .ok (.iload_n 3, 1) := by decide +kernel
theorem dX6_put_22 : decode cX6_put 22 = .ok (.iastore, 1) := by decide +kernel
theorem dX6_put_23 : decode cX6_put 23 = .ok (.aload_n 0, 1) := by decide +kernel
theorem dX6_put_24 : decode cX6_put 24 = .ok (.getfield 31, 3) := by decide +kernel
theorem dX6_put_27 : decode cX6_put 27 = .ok (.iload 6, 2) := by decide +kernel
theorem dX6_put_29 : decode cX6_put 29 = .ok (.iconst 2, 1) := by decide +kernel
theorem dX6_put_30 : decode cX6_put 30 = .ok (.iadd, 1) := by decide +kernel
theorem dX6_put_31 : decode cX6_put 31 = .ok (.iload 4, 2) := by decide +kernel
theorem dX6_put_33 : decode cX6_put 33 = .ok (.iastore, 1) := by decide +kernel
theorem dX6_put_34 : decode cX6_put 34 = .ok (.aload_n 0, 1) := by decide +kernel
theorem dX6_put_35 : decode cX6_put 35 = .ok (.getfield 31, 3) := by decide +kernel
theorem dX6_put_38 : decode cX6_put 38 = .ok (.iload 6, 2) := by decide +kernel
theorem dX6_put_40 : decode cX6_put 40 = .ok (.iconst 3, 1) := by decide +kernel
theorem dX6_put_41 : decode cX6_put 41 = .ok (.iadd, 1) := by decide +kernel
theorem dX6_put_42 : decode cX6_put 42 = .ok (.iload 5, 2) := by decide +kernel
theorem dX6_put_44 : decode cX6_put 44 = .ok (.iastore, 1) := by decide +kernel
theorem dX6_put_45 : decode cX6_put 45 = .ok (.return_, 1) := by decide +kernel
theorem dX6_beginsRow_0 : decode cX6_beginsRow 0 = .ok (.iload_n 1, 1) := by decide +kernel
theorem dX6_beginsRow_1 : decode cX6_beginsRow 1 = .ok (.ifCond .ne 5, 3) := by decide +kernel
theorem dX6_beginsRow_4 : decode cX6_beginsRow 4 = .ok (.iconst 1, 1) := by decide +kernel
theorem dX6_beginsRow_5 : decode cX6_beginsRow 5 = .ok (.ireturn, 1) := by decide +kernel
theorem dX6_beginsRow_6 : decode cX6_beginsRow 6 = .ok (.aload_n 0, 1) := by decide +kernel
theorem dX6_beginsRow_7 : decode cX6_beginsRow 7 = .ok (.getfield 31, 3) := by decide +kernel
theorem dX6_beginsRow_10 : decode cX6_beginsRow 10 = .ok (.iload_n 1, 1) := by decide +kernel
theorem dX6_beginsRow_11 : decode cX6_beginsRow 11 = .ok (.iconst 5, 1) := by decide +kernel
theorem dX6_beginsRow_12 : decode cX6_beginsRow 12 = .ok (.imul, 1) := by decide +kernel
theorem dX6_beginsRow_13 : decode cX6_beginsRow 13 = .ok (.iaload, 1) := by decide +kernel
theorem dX6_beginsRow_14 : decode cX6_beginsRow 14 = .ok (.ifCond .ne 7, 3) := by decide +kernel
theorem dX6_beginsRow_17 : decode cX6_beginsRow 17 = .ok (.iconst 1, 1) := by decide +kernel
theorem dX6_beginsRow_18 : decode cX6_beginsRow 18 = .ok (.goto 4, 3) := by decide +kernel
theorem dX6_beginsRow_21 : decode cX6_beginsRow 21 = .ok (.iconst 0, 1) := by decide +kernel
theorem dX6_beginsRow_22 : decode cX6_beginsRow 22 = .ok (.istore_n 3, 1) := by decide +kernel
theorem dX6_beginsRow_23 : decode cX6_beginsRow 23 = .ok (.aload_n 0, 1) := by decide +kernel
theorem dX6_beginsRow_24 : decode cX6_beginsRow 24 = .ok (.getfield 31, 3) := by decide +kernel
theorem dX6_beginsRow_27 : decode cX6_beginsRow 27 = .ok (.iload_n 1, 1) := by decide +kernel
theorem dX6_beginsRow_28 : decode cX6_beginsRow 28 = .ok (.iconst 1, 1) := by decide +kernel
theorem dX6_beginsRow_29 : decode cX6_beginsRow 29 = .ok (.isub, 1) := by decide +kernel
theorem dX6_beginsRow_30 : decode cX6_beginsRow 30 = .ok (.iconst 5, 1) := by decide +kernel
theorem dX6_beginsRow_31 : decode cX6_beginsRow 31 = .ok (.imul, 1) := by decide +kernel
theorem dX6_beginsRow_32 : decode cX6_beginsRow 32 = .ok (.iaload, 1) := by decide +kernel
theorem dX6_beginsRow_33 : decode cX6_beginsRow 33 = .ok (.ifCond .ne 7, 3) := by decide +kernel
theorem dX6_beginsRow_36 : decode cX6_beginsRow 36 = .ok (.iconst 1, 1) := by decide +kernel
theorem dX6_beginsRow_37 : decode cX6_beginsRow 37 = .ok (.goto 4, 3) := by decide +kernel
theorem dX6_beginsRow_40 : decode cX6_beginsRow 40 = .ok (.iconst 0, 1) := by decide +kernel
theorem dX6_beginsRow_41 : decode cX6_beginsRow 41 = .ok (.istore 4, 2) := by decide +kernel
theorem dX6_beginsRow_43 : decode cX6_beginsRow 43 = .ok (.iload_n 3, 1) := by decide +kernel
theorem dX6_beginsRow_44 : decode cX6_beginsRow 44 = .ok (.iload 4, 2) := by decide +kernel
theorem dX6_beginsRow_46 : decode cX6_beginsRow 46 = .ok (.if_icmp .ne 11, 3) := by decide +kernel
theorem dX6_beginsRow_49 : decode cX6_beginsRow 49 = .ok (.iload_n 2, 1) := by decide +kernel
theorem dX6_beginsRow_50 : decode cX6_beginsRow 50 = .ok (.ifCond .eq 11, 3) := by decide +kernel
theorem dX6_beginsRow_53 : decode cX6_beginsRow 53 = .ok (.iload_n 3, 1) := by decide +kernel
theorem dX6_beginsRow_54 : decode cX6_beginsRow 54 = .ok (.ifCond .ne 7, 3) := by decide +kernel
theorem dX6_beginsRow_57 : decode cX6_beginsRow 57 = .ok (.iconst 1, 1) := by decide +kernel
theorem dX6_beginsRow_58 : decode cX6_beginsRow 58 = .ok (.goto 4, 3) := by decide +kernel
theorem dX6_beginsRow_61 : decode cX6_beginsRow 61 = .ok (.iconst 0, 1) := by decide +kernel
theorem dX6_beginsRow_62 : decode cX6_beginsRow 62 = .ok (.ireturn, 1) := by decide +kernel
theorem dX7_init_0 : decode cX7_init 0 = .ok (.aload_n 0, 1) := by decide +kernel
theorem dX7_init_1 : decode cX7_init 1 = .ok (.invokespecial 3, 3) := by decide +kernel
theorem dX7_init_4 : decode cX7_init 4 = .ok (.aload_n 0, 1) := by decide +kernel
theorem dX7_init_5 : decode cX7_init 5 = .ok (.iconst (-1), 1) := by decide +kernel
theorem dX7_init_6 : decode cX7_init 6 = .ok (.putfield 9, 3) := by decide +kernel
theorem dX7_init_9 : decode cX7_init 9 = .ok (.aload_n 0, 1) := by decide +kernel
theorem dX7_init_10 : decode cX7_init 10 = .ok (.iconst (-1), 1) := by decide +kernel
theorem dX7_init_11 : decode cX7_init 11 = .ok (.putfield 15, 3) := by decide +kernel
theorem dX7_init_14 : decode cX7_init 14 = .ok (.aload_n 0, 1) := by decide +kernel
theorem dX7_init_15 : decode cX7_init 15 = .ok (.iconst (-1), 1) := by decide +kernel
theorem dX7_init_16 : decode cX7_init 16 = .ok (.putfield 18, 3) := by decide +kernel
theorem dX7_init_19 : decode cX7_init 19 = .ok (.aload_n 0, 1) := by decide +kernel
theorem dX7_init_20 : decode cX7_init 20 = .ok (.sipush 3198, 3) := by decide +kernel
theorem dX7_init_23 : decode cX7_init 23 = .ok (.newarray .byte, 2) := by decide +kernel
theorem dX7_init_25 : decode cX7_init 25 = .ok (.putfield 23, 3) := by decide +kernel
theorem dX7_init_28 : decode cX7_init 28 = .ok (.aload_n 0, 1) := by decide +kernel
theorem dX7_init_29 : decode cX7_init 29 = .ok (.iconst (-1), 1) := by decide +kernel
theorem dX7_init_30 : decode cX7_init 30 = .ok (.putfield 27, 3) := by decide +kernel
theorem dX7_init_33 : decode cX7_init 33 = .ok (.aload_n 0, 1) := by decide +kernel
theorem dX7_init_34 : decode cX7_init 34 = .ok (.bipush (-2), 2) := by decide +kernel
theorem dX7_init_36 : decode cX7_init 36 = .ok (.putfield 30, 3) := by decide +kernel
theorem dX7_init_39 : decode cX7_init 39 = .ok (.aload_n 0, 1) := by decide +kernel
theorem dX7_init_40 : decode cX7_init 40 = .ok (.sipush 15000, 3) := by decide +kernel
theorem dX7_init_43 : decode cX7_init 43 = .ok (.newarray .int, 2) := by decide +kernel
theorem dX7_init_45 : decode cX7_init 45 = .ok (.putfield 33, 3) := by decide +kernel
theorem dX7_init_48 : decode cX7_init 48 = .ok (.aload_n 0, 1) := by decide +kernel
theorem dX7_init_49 : decode cX7_init 49 = .ok (.sipush 2322, 3) := by decide +kernel
theorem dX7_init_52 : decode cX7_init 52 = .ok (.newarray .int, 2) := by decide +kernel
theorem dX7_init_54 : decode cX7_init 54 = .ok (.putfield 37, 3) := by decide +kernel
theorem dX7_init_57 : decode cX7_init 57 = .ok (.aload_n 0, 1) := by decide +kernel
theorem dX7_init_58 : decode cX7_init 58 = .ok (.iconst 2, 1) := by decide +kernel
theorem dX7_init_59 : decode cX7_init 59 = .ok (.newarray .int, 2) := by decide +kernel
theorem dX7_init_61 : decode cX7_init 61 = .ok (.putfield 40, 3) := by decide +kernel
theorem dX7_init_64 : decode cX7_init 64 = .ok (.aload_n 0, 1) := by decide +kernel
theorem dX7_init_65 : decode cX7_init 65 = .ok (.iconst 2, 1) := by decide +kernel
theorem dX7_init_66 : decode cX7_init 66 = .ok (.newarray .int, 2) := by decide +kernel
theorem dX7_init_68 : decode cX7_init 68 = .ok (.dup, 1) := by decide +kernel
theorem dX7_init_69 : decode cX7_init 69 = .ok (.iconst 0, 1) := by decide +kernel
theorem dX7_init_70 : decode cX7_init 70 = .ok (.iconst (-1), 1) := by decide +kernel
theorem dX7_init_71 : decode cX7_init 71 = .ok (.iastore, 1) := by decide +kernel
theorem dX7_init_72 : decode cX7_init 72 = .ok (.dup, 1) := by decide +kernel
theorem dX7_init_73 : decode cX7_init 73 = .ok (.iconst 1, 1) := by decide +kernel
theorem dX7_init_74 : decode cX7_init 74 = .ok (.iconst (-1), 1) := by decide +kernel
theorem dX7_init_75 : decode cX7_init 75 = .ok (.iastore, 1) := by decide +kernel
theorem dX7_init_76 : decode cX7_init 76 = .ok (.putfield 43, 3) := by decide +kernel
theorem dX7_init_79 : decode cX7_init 79 = .ok (.aload_n 0, 1) := by decide +kernel
theorem dX7_init_80 : decode cX7_init 80 = .ok (.lload_n 1, 1) := by decide +kernel
theorem dX7_init_81 : decode cX7_init 81 = .ok (.putfield 46, 3) := by decide +kernel
theorem dX7_init_84 : decode cX7_init 84 = .ok (.return_, 1) := by decide +kernel
theorem dX7_isCollecting_0 : decode cX7_isCollecting 0 = .ok (.aload_n 0, 1) := by decide +kernel
theorem dX7_isCollecting_1 : decode cX7_isCollecting 1 = .ok (.getfield 50, 3) := by decide +kernel
theorem dX7_isCollecting_4 : decode cX7_isCollecting 4 = .ok (.ifCond .le 7, 3) := by decide +kernel
theorem dX7_isCollecting_7 : decode cX7_isCollecting 7 = .ok (.iconst 1, 1) := by decide +kernel
theorem dX7_isCollecting_8 : decode cX7_isCollecting 8 = .ok (.goto 4, 3) := by decide +kernel
theorem dX7_isCollecting_11 : decode cX7_isCollecting 11 = .ok (.iconst 0, 1) := by decide +kernel
theorem dX7_isCollecting_12 : decode cX7_isCollecting 12 = .ok (.ireturn, 1) := by decide +kernel
theorem dX7_drop_0 : decode cX7_drop 0 = .ok (.aload_n 0, 1) := by decide +kernel
theorem dX7_drop_1 : decode cX7_drop 1 = .ok (.iconst 0, 1) := by decide +kernel
theorem dX7_drop_2 : decode cX7_drop 2 = .ok (.putfield 50, 3) := by decide +kernel
theorem dX7_drop_5 : decode cX7_drop 5 = .ok (.return_, 1) := by decide +kernel
theorem dX7_learnTable_0 : decode cX7_learnTable 0 = .ok (.iload_n 1, 1) := by decide +kernel
theorem dX7_learnTable_1 : decode cX7_learnTable 1 = .ok (.aload_n 0, 1) := by decide +kernel
theorem dX7_learnTable_2 : decode cX7_learnTable 2 = .ok (.getfield 9, 3) := by decide +kernel
theorem dX7_learnTable_5 : decode cX7_learnTable 5 = .ok (.if_icmp .ne 4, 3) := by decide +kernel
theorem dX7_learnTable_8 : decode cX7_learnTable 8 = .ok (.return_, 1) := by decide +kernel
theorem dX7_learnTable_9 : decode cX7_learnTable 9 = .ok (.aload_n 0, 1) := by decide +kernel
theorem dX7_learnTable_10 : decode cX7_learnTable 10 = .ok (.iload_n 1, 1) := by decide +kernel
theorem dX7_learnTable_11 : decode cX7_learnTable 11 = .ok (.putfield 9, 3) := by decide +kernel
theorem dX7_learnTable_14 : decode cX7_learnTable 14 = .ok (.aload_n 0, 1) := by decide +kernel
theorem dX7_learnTable_15 : decode cX7_learnTable 15 = .ok (.iconst (-1), 1) := by decide +kernel
theorem dX7_learnTable_16 : decode cX7_learnTable 16 = .ok (.invokevirtual 53, 3) := by decide +kernel
theorem dX7_learnTable_19 : decode cX7_learnTable 19 = .ok (.return_, 1) := by decide +kernel
theorem dX7_learnPid_0 : decode cX7_learnPid 0 = .ok (.iload_n 1, 1) := by decide +kernel
theorem dX7_learnPid_1 : decode cX7_learnPid 1 = .ok (.aload_n 0, 1) := by decide +kernel
theorem dX7_learnPid_2 : decode cX7_learnPid 2 = .ok (.getfield 15, 3) := by decide +kernel
theorem dX7_learnPid_5 : decode cX7_learnPid 5 = .ok (.if_icmp .ne 4, 3) := by decide +kernel
theorem dX7_learnPid_8 : decode cX7_learnPid 8 = .ok (.return_, 1) := by decide +kernel
theorem dX7_learnPid_9 : decode cX7_learnPid 9 = .ok (.aload_n 0, 1) := by decide +kernel
theorem dX7_learnPid_10 : decode cX7_learnPid 10 = .ok (.iload_n 1, 1) := by decide +kernel
theorem dX7_learnPid_11 : decode cX7_learnPid 11 = .ok (.putfield 15, 3) := by decide +kernel
theorem dX7_learnPid_14 : decode cX7_learnPid 14 = .ok (.aload_n 0, 1) := by decide +kernel
theorem dX7_learnPid_15 : decode cX7_learnPid 15 = .ok (.iconst (-1), 1) := by decide +kernel
theorem dX7_learnPid_16 : decode cX7_learnPid 16 = .ok (.putfield 18, 3) := by decide +kernel
theorem dX7_learnPid_19 : decode cX7_learnPid 19 = .ok (.aload_n 0, 1) := by decide +kernel
theorem dX7_learnPid_20 : decode cX7_learnPid 20 = .ok (.iconst 0, 1) := by decide +kernel
theorem dX7_learnPid_21 : decode cX7_learnPid 21 = .ok (.putfield 50, 3) := by decide +kernel
theorem dX7_learnPid_24 : decode cX7_learnPid 24 = .ok (.return_, 1) := by decide +kernel
theorem dX7_collect_0 : decode cX7_collect 0 = .ok (.iload_n 3, 1) := by decide +kernel
theorem dX7_collect_1 : decode cX7_collect 1 = .ok (.ifCond .lt 21, 3) := by decide +kernel
theorem dX7_collect_4 : decode cX7_collect 4 = .ok (.aload_n 0, 1) := by decide +kernel
theorem dX7_collect_5 : decode cX7_collect 5 = .ok (.getfield 50, 3) := by decide +kernel
theorem dX7_collect_8 : decode cX7_collect 8 = .ok (.iload_n 3, 1) := by decide +kernel
theorem dX7_collect_9 : decode cX7_collect 9 = .ok (.iadd, 1) := by decide +kernel
theorem dX7_collect_10 : decode cX7_collect 10 = .ok (.aload_n 0, 1) := by decide +kernel
theorem dX7_collect_11 : decode cX7_collect 11 = .ok (.getfield 23, 3) := by decide +kernel
theorem dX7_collect_14 : decode cX7_collect 14 = .ok (.arraylength, 1) := by decide +kernel
theorem dX7_collect_15 : decode cX7_collect 15 = .ok (.if_icmp .gt 7, 3) := by decide +kernel
theorem dX7_collect_18 : decode cX7_collect 18 = .ok (.iconst 1, 1) := by decide +kernel
theorem dX7_collect_19 : decode cX7_collect 19 = .ok (.goto 4, 3) := by decide +kernel
theorem dX7_collect_22 : decode cX7_collect 22 = .ok (.iconst 0, 1) := by decide +kernel
theorem dX7_collect_23 : decode cX7_collect 23 = .ok (.istore 4, 2) := by decide +kernel
theorem dX7_collect_25 : decode cX7_collect 25 = .ok (.iload 4, 2) := by decide +kernel
theorem dX7_collect_27 : decode cX7_collect 27 = .ok (.ifCond .eq 50, 3) := by decide +kernel
theorem dX7_collect_30 : decode cX7_collect 30 = .ok (.aload_n 1, 1) := by decide +kernel
theorem dX7_collect_31 : decode cX7_collect 31 = .ok (.iload_n 2, 1) := by decide +kernel
theorem dX7_collect_32 : decode cX7_collect 32 = .ok (.aload_n 0, 1) := by decide +kernel
theorem dX7_collect_33 : decode cX7_collect 33 = .ok (.getfield 23, 3) := by decide +kernel
theorem dX7_collect_36 : decode cX7_collect 36 = .ok (.aload_n 0, 1) := by decide +kernel
theorem dX7_collect_37 : decode cX7_collect 37 = .ok (.getfield 50, 3) := by decide +kernel
theorem dX7_collect_40 : decode cX7_collect 40 = .ok (.iload_n 3, 1) := by decide +kernel
theorem dX7_collect_41 : decode cX7_collect 41 = .ok (.invokestatic 57, 3) := by decide +kernel
theorem dX7_collect_44 : decode cX7_collect 44 = .ok (.aload_n 0, 1) := by decide +kernel
theorem dX7_collect_45 : decode cX7_collect 45 = .ok (.dup, 1) := by decide +kernel
theorem dX7_collect_46 : decode cX7_collect 46 = .ok (.getfield 50, 3) := by decide +kernel
theorem dX7_collect_49 : decode cX7_collect 49 = .ok (.iload_n 3, 1) := by decide +kernel
theorem dX7_collect_50 : decode cX7_collect 50 = .ok (.iadd, 1) := by decide +kernel
theorem dX7_collect_51 : decode cX7_collect 51 = .ok (.putfield 50, 3) := by decide +kernel
theorem dX7_collect_54 : decode cX7_collect 54 = .ok (.aload_n 0, 1) := by decide +kernel
theorem dX7_collect_55 : decode cX7_collect 55 = .ok (.getfield 50, 3) := by decide +kernel
theorem dX7_collect_58 : decode cX7_collect 58 = .ok (.bipush 6, 2) := by decide +kernel
theorem dX7_collect_60 : decode cX7_collect 60 = .ok (.if_icmp .lt 10, 3) := by decide +kernel
theorem dX7_collect_63 : decode cX7_collect 63 = .ok (.aload_n 0, 1) := by decide +kernel
theorem dX7_collect_64 : decode cX7_collect 64 = .ok (.invokevirtual 63, 3) := by decide +kernel
theorem dX7_collect_67 : decode cX7_collect 67 = .ok (.ifCond .eq 7, 3) := by decide +kernel
theorem dX7_collect_70 : decode cX7_collect 70 = .ok (.iconst 1, 1) := by decide +kernel
theorem dX7_collect_71 : decode cX7_collect 71 = .ok (.goto 4, 3) := by decide +kernel
theorem dX7_collect_74 : decode cX7_collect 74 = .ok (.iconst 0, 1) := by decide +kernel
theorem dX7_collect_75 : decode cX7_collect 75 = .ok (.istore 4, 2) := by decide +kernel
theorem dX7_collect_77 : decode cX7_collect 77 = .ok (.iload 4, 2) := by decide +kernel
theorem dX7_collect_79 : decode cX7_collect 79 = .ok (.ifCond .ne 8, 3) := by decide +kernel
theorem dX7_collect_82 : decode cX7_collect 82 = .ok (.aload_n 0, 1) := by decide +kernel
theorem dX7_collect_83 : decode cX7_collect 83 = .ok (.iconst 0, 1) := by decide +kernel
theorem dX7_collect_84 : decode cX7_collect 84 = .ok (.putfield 50, 3) := by decide +kernel
theorem dX7_collect_87 : decode cX7_collect 87 = .ok (.iload 4, 2) := by decide +kernel
theorem dX7_collect_89 : decode cX7_collect 89 = .ok (.ireturn, 1) := by decide +kernel
theorem dX7_isBeginningRight_0 : decode cX7_isBeginningRight 0 = .ok (.aload_n 0, 1) := by decide +kernel
theorem dX7_isBeginningRight_1 : decode cX7_isBeginningRight 1 = .ok (.getfield 23, 3) := by decide +kernel
theorem dX7_isBeginningRight_4 : decode cX7_isBeginningRight 4 = .ok (.iconst 4, 1) := by decide +kernel
theorem dX7_isBeginningRight_5 : decode cX7_isBeginningRight 5 = .ok (.invokestatic 67, 3) := by decide +kernel
theorem dX7_isBeginningRight_8 : decode cX7_isBeginningRight 8 = .ok (.istore_n 1, 1) := by decide +kernel
theorem dX7_isBeginningRight_9 : decode cX7_isBeginningRight 9 = .ok (.aload_n 0, 1) := by decide +kernel
theorem dX7_isBeginningRight_10 : decode cX7_isBeginningRight 10 = .ok (.getfield 23, 3) := by decide +kernel
theorem dX7_isBeginningRight_13 : decode cX7_isBeginningRight 13 = .ok (.iconst 0, 1) := by decide +kernel
theorem dX7_isBeginningRight_14 : decode cX7_isBeginningRight 14 = .ok (.invokestatic 73, 3) := by decide +kernel
theorem dX7_isBeginningRight_17 : decode cX7_isBeginningRight 17 = .ok (.sipush 480, 3) := by decide +kernel
theorem dX7_isBeginningRight_20 : decode cX7_isBeginningRight 20 = .ok (.if_icmp .ne 31, 3) := by decide +kernel
theorem dX7_isBeginningRight_23 : decode cX7_isBeginningRight 23 = .ok (.iload_n 1, 1) := by decide +kernel
theorem dX7_isBeginningRight_24 : decode cX7_isBeginningRight 24 = .ok (.bipush 24, 2) := by decide +kernel
theorem dX7_isBeginningRight_26 : decode cX7_isBeginningRight 26 = .ok (.if_icmp .lt 25, 3) := by decide +kernel
theorem dX7_isBeginningRight_29 : decode cX7_isBeginningRight 29 = .ok (.iload_n 1, 1) := by decide +kernel
theorem dX7_isBeginningRight_30 : decode cX7_isBeginningRight 30 = .ok (.sipush 3008, 3) := by decide +kernel
theorem dX7_isBeginningRight_33 : decode cX7_isBeginningRight 33 = .ok (.if_icmp .gt 18, 3) := by decide +kernel
theorem dX7_isBeginningRight_36 : decode cX7_isBeginningRight 36 = .ok (.aload_n 0, 1) := by decide +kernel
theorem dX7_isBeginningRight_37 : decode cX7_isBeginningRight 37 = .ok (.getfield 50, 3) := by decide +kernel
theorem dX7_isBeginningRight_40 : decode cX7_isBeginningRight 40 = .ok (.bipush 6, 2) := by decide +kernel
theorem dX7_isBeginningRight_42 : decode cX7_isBeginningRight 42 = .ok (.iload_n 1, 1) := by decide +kernel
theorem dX7_isBeginningRight_43 : decode cX7_isBeginningRight 43 = .ok (.iadd, 1) := by decide +kernel
theorem dX7_isBeginningRight_44 : decode cX7_isBeginningRight 44 = .ok (.if_icmp .gt 7, 3) := by decide +kernel
theorem dX7_isBeginningRight_47 : decode cX7_isBeginningRight 47 = .ok (.iconst 1, 1) := by decide +kernel
theorem dX7_isBeginningRight_48 : decode cX7_isBeginningRight 48 = .ok (.goto 4, 3) := by decide +kernel
theorem dX7_isBeginningRight_51 : decode cX7_isBeginningRight 51 = .ok (.iconst 0, 1) := by decide +kernel
theorem dX7_isBeginningRight_52 : decode cX7_isBeginningRight 52 = .ok (.ireturn, 1) := by decide +kernel
theorem dX7_isWhole_0 : decode cX7_isWhole 0 = .ok (.aload_n 0, 1) := by decide +kernel
theorem dX7_isWhole_1 : decode cX7_isWhole 1 = .ok (.getfield 50, 3) := by decide +kernel
theorem dX7_isWhole_4 : decode cX7_isWhole 4 = .ok (.bipush 6, 2) := by decide +kernel
theorem dX7_isWhole_6 : decode cX7_isWhole 6 = .ok (.if_icmp .lt 25, 3) := by decide +kernel
theorem dX7_isWhole_9 : decode cX7_isWhole 9 = .ok (.aload_n 0, 1) := by decide +kernel
theorem dX7_isWhole_10 : decode cX7_isWhole 10 = .ok (.getfield 50, 3) := by decide +kernel
theorem dX7_isWhole_13 : decode cX7_isWhole 13 = .ok (.bipush 6, 2) := by decide +kernel
theorem dX7_isWhole_15 : decode cX7_isWhole 15 = .ok (.aload_n 0, 1) := by decide +kernel
theorem dX7_isWhole_16 : decode cX7_isWhole 16 = .ok (.getfield 23, 3) := by decide +kernel
theorem dX7_isWhole_19 : decode cX7_isWhole 19 = .ok (.iconst 4, 1) := by decide +kernel
theorem dX7_isWhole_20 : decode cX7_isWhole 20 = .ok (.invokestatic 67, 3) := by decide +kernel
theorem dX7_isWhole_23 : decode cX7_isWhole 23 = .ok (.iadd, 1) := by decide +kernel
theorem dX7_isWhole_24 : decode cX7_isWhole 24 = .ok (.if_icmp .ne 7, 3) := by decide +kernel
theorem dX7_isWhole_27 : decode cX7_isWhole 27 = .ok (.iconst 1, 1) := by decide +kernel
theorem dX7_isWhole_28 : decode cX7_isWhole 28 = .ok (.goto 4, 3) := by decide +kernel
theorem dX7_isWhole_31 : decode cX7_isWhole 31 = .ok (.iconst 0, 1) := by decide +kernel
theorem dX7_isWhole_32 : decode cX7_isWhole 32 = .ok (.ireturn, 1) := by decide +kernel
theorem dX7_decode_0 : decode cX7_decode 0 = .ok (.aload_n 0, 1) := by decide +kernel
theorem dX7_decode_1 : decode cX7_decode 1 = .ok (.getfield 50, 3) := by decide +kernel
theorem dX7_decode_4 : decode cX7_decode 4 = .ok (.istore_n 2, 1) := by decide +kernel
theorem dX7_decode_5 : decode cX7_decode 5 = .ok (.aload_n 0, 1) := by decide +kernel
theorem dX7_decode_6 : decode cX7_decode 6 = .ok (.iconst 0, 1) := by decide +kernel
theorem dX7_decode_7 : decode cX7_decode 7 = .ok (.putfield 50, 3) := by decide +kernel
theorem dX7_decode_10 : decode cX7_decode 10 = .ok (.aload_n 0, 1) := by decide +kernel
theorem dX7_decode_11 : decode cX7_decode 11 = .ok (.getfield 23, 3) := by decide +kernel
theorem dX7_decode_14 : decode cX7_decode 14 = .ok (.bipush 6, 2) := by decide +kernel
theorem dX7_decode_16 : decode cX7_decode 16 = .ok (.invokestatic 67, 3) := by decide +kernel
theorem dX7_decode_19 : decode cX7_decode 19 = .ok (.ldc 76, 2) := by decide +kernel
theorem dX7_decode_21 : decode cX7_decode 21 = .ok (.if_icmp .ne 14, 3) := by decide +kernel
theorem dX7_decode_24 : decode cX7_decode 24 = .ok (.aload_n 0, 1) := by decide +kernel
theorem dX7_decode_25 : decode cX7_decode 25 = .ok (.getfield 23, 3) := by decide +kernel
theorem dX7_decode_28 : decode cX7_decode 28 = .ok (.bipush 8, 2) := by decide +kernel
theorem dX7_decode_30 : decode cX7_decode 30 = .ok (.baload, 1) := by decide +kernel
theorem dX7_decode_31 : decode cX7_decode 31 = .ok (.iconst 5, 1) := by decide +kernel
theorem dX7_decode_32 : decode cX7_decode 32 = .ok (.if_icmp .eq 5, 3) := by decide +kernel
theorem dX7_decode_35 : decode cX7_decode 35 = .ok (.iconst 0, 1) := by decide +kernel
theorem dX7_decode_36 : decode cX7_decode 36 = .ok (.ireturn, 1) := by decide +kernel
theorem dX7_decode_37 : decode cX7_decode 37 = .ok (.aload_n 0, 1) := by decide +kernel
theorem dX7_decode_38 : decode cX7_decode 38 = .ok (.getfield 23, 3) := by decide +kernel
theorem dX7_decode_41 : decode cX7_decode 41 = .ok (.bipush 9, 2) := by decide +kernel
theorem dX7_decode_43 : decode cX7_decode 43 = .ok (.baload, 1) := by decide +kernel
theorem dX7_decode_44 : decode cX7_decode 44 = .ok (.sipush 241, 3) := by decide +kernel
theorem dX7_decode_47 : decode cX7_decode 47 = .ok (.iand, 1) := by decide +kernel
theorem dX7_decode_48 : decode cX7_decode 48 = .ok (.bipush 33, 2) := by decide +kernel
theorem dX7_decode_50 : decode cX7_decode 50 = .ok (.if_icmp .ne 27, 3) := by decide +kernel
theorem dX7_decode_53 : decode cX7_decode 53 = .ok (.aload_n 0, 1) := by decide +kernel
theorem dX7_decode_54 : decode cX7_decode 54 = .ok (.getfield 23, 3) := by decide +kernel
theorem dX7_decode_57 : decode cX7_decode 57 = .ok (.bipush 11, 2) := by decide +kernel
theorem dX7_decode_59 : decode cX7_decode 59 = .ok (.baload, 1) := by decide +kernel
theorem dX7_decode_60 : decode cX7_decode 60 = .ok (.iconst 1, 1) := by decide +kernel
theorem dX7_decode_61 : decode cX7_decode 61 = .ok (.iand, 1) := by decide +kernel
theorem dX7_decode_62 : decode cX7_decode 62 = .ok (.ifCond .eq 15, 3) := by decide +kernel
theorem dX7_decode_65 : decode cX7_decode 65 = .ok (.aload_n 0, 1) := by decide +kernel
theorem dX7_decode_66 : decode cX7_decode 66 = .ok (.getfield 23, 3) := by decide +kernel
theorem dX7_decode_69 : decode cX7_decode 69 = .ok (.bipush 13, 2) := by decide +kernel
theorem dX7_decode_71 : decode cX7_decode 71 = .ok (.baload, 1) := by decide +kernel
theorem dX7_decode_72 : decode cX7_decode 72 = .ok (.iconst 1, 1) := by decide +kernel
theorem dX7_decode_73 : decode cX7_decode 73 = .ok (.iand, 1) := by decide +kernel
theorem dX7_decode_74 : decode cX7_decode 74 = .ok (.ifCond .ne 5, 3) := by decide +kernel
theorem dX7_decode_77 : decode cX7_decode 77 = .ok (.iconst 0, 1) := by decide +kernel
theorem dX7_decode_78 : decode cX7_decode 78 = .ok (.ireturn, 1) := by decide +kernel
theorem dX7_decode_79 : decode cX7_decode 79 = .ok (.aload_n 0, 1) := by decide +kernel
theorem dX7_decode_80 : decode cX7_decode 80 = .ok (.invokevirtual 77, 3) := by decide +kernel
theorem dX7_decode_83 : decode cX7_decode 83 = .ok (.aload_n 0, 1) := by decide +kernel
theorem dX7_decode_84 : decode cX7_decode 84 = .ok (.getfield 46, 3) := by decide +kernel
theorem dX7_decode_87 : decode cX7_decode 87 = .ok (.lsub, 1) := by decide +kernel
theorem dX7_decode_88 : decode cX7_decode 88 = .ok (.ldc2_w 81, 3) := by decide +kernel
theorem dX7_decode_91 : decode cX7_decode 91 = .ok (.invokestatic 83, 3) := by decide +kernel
theorem dX7_decode_94 : decode cX7_decode 94 = .ok (.lstore_n 3, 1) := by decide +kernel
theorem dX7_decode_95 : decode cX7_decode 95 = .ok (.lload_n 3, 1) := by decide +kernel
theorem dX7_decode_96 : decode cX7_decode 96 = .ok (.ldc2_w 89, 3) := by decide +kernel
theorem dX7_decode_99 : decode cX7_decode 99 = .ok (.ldiv, 1) := by decide +kernel
theorem dX7_decode_100 : decode cX7_decode 100 = .ok (.ldc2_w 91, 3) := by decide +kernel
theorem dX7_decode_103 : decode cX7_decode 103 = .ok (.lsub, 1) := by decide +kernel
theorem dX7_decode_104 : decode cX7_decode 104 = .ok (.lstore 5, 2) := by decide +kernel
theorem dX7_decode_106 : decode cX7_decode 106 = .ok (.lload_n 3, 1) := by decide +kernel
theorem dX7_decode_107 : decode cX7_decode 107 = .ok (.ldc2_w 89, 3) := by decide +kernel
theorem dX7_decode_110 : decode cX7_decode 110 = .ok (.lrem, 1) := by decide +kernel
theorem dX7_decode_111 : decode cX7_decode 111 = .ok (.lconst 0, 1) := by decide +kernel
theorem dX7_decode_112 : decode cX7_decode 112 = .ok (.lcmp, 1) := by decide +kernel
theorem dX7_decode_113 : decode cX7_decode 113 = .ok (.ifCond .ne 31, 3) := by decide +kernel
theorem dX7_decode_116 : decode cX7_decode 116 = .ok (.lload 5, 2) := by decide +kernel
theorem dX7_decode_118 : decode cX7_decode 118 = .ok (.iload_n 1, 1) := by decide +kernel
theorem dX7_decode_119 : decode cX7_decode 119 = .ok (.i2l, 1) := by decide +kernel
theorem dX7_decode_120 : decode cX7_decode 120 = .ok (.lcmp, 1) := by decide +kernel
theorem dX7_decode_121 : decode cX7_decode 121 = .ok (.ifCond .lt 23, 3) := by decide +kernel
theorem dX7_decode_124 : decode cX7_decode 124 = .ok (.lload 5, 2) := by decide +kernel
theorem dX7_decode_126 : decode cX7_decode 126 = .ok (.ldc2_w 93, 3) := by decide +kernel
theorem dX7_decode_129 : decode cX7_decode 129 = .ok (.lcmp, 1) := by decide +kernel
theorem dX7_decode_130 : decode cX7_decode 130 = .ok (.ifCond .ge 14, 3) := by decide +kernel
theorem dX7_decode_133 : decode cX7_decode 133 = .ok (.lload 5, 2) := by decide +kernel
theorem dX7_decode_135 : decode cX7_decode 135 = .ok (.aload_n 0, 1) := by decide +kernel
theorem dX7_decode_136 : decode cX7_decode 136 = .ok (.getfield 27, 3) := by decide +kernel
theorem dX7_decode_139 : decode cX7_decode 139 = .ok (.i2l, 1) := by decide +kernel
theorem dX7_decode_140 : decode cX7_decode 140 = .ok (.lcmp, 1) := by decide +kernel
theorem dX7_decode_141 : decode cX7_decode 141 = .ok (.ifCond .gt 5, 3) := by decide +kernel
theorem dX7_decode_144 : decode cX7_decode 144 = .ok (.iconst 0, 1) := by decide +kernel
theorem dX7_decode_145 : decode cX7_decode 145 = .ok (.ireturn, 1) := by decide +kernel
theorem dX7_decode_146 : decode cX7_decode 146 = .ok (.aload_n 0, 1) := by decide +kernel
theorem dX7_decode_147 : decode cX7_decode 147 = .ok (.getfield 23, 3) := by decide +kernel
theorem dX7_decode_150 : decode cX7_decode 150 = .ok (.bipush 14, 2) := by decide +kernel
theorem dX7_decode_152 : decode cX7_decode 152 = .ok (.invokestatic 73, 3) := by decide +kernel
theorem dX7_decode_155 : decode cX7_decode 155 = .ok (.aload_n 0, 1) := by decide +kernel
theorem dX7_decode_156 : decode cX7_decode 156 = .ok (.getfield 23, 3) := by decide +kernel
theorem dX7_decode_159 : decode cX7_decode 159 = .ok (.bipush 18, 2) := by decide +kernel
theorem dX7_decode_161 : decode cX7_decode 161 = .ok (.iload_n 2, 1) := by decide +kernel
theorem dX7_decode_162 : decode cX7_decode 162 = .ok (.invokestatic 95, 3) := by decide +kernel
theorem dX7_decode_165 : decode cX7_decode 165 = .ok (.if_icmp .eq 5, 3) := by decide +kernel
theorem dX7_decode_168 : decode cX7_decode 168 = .ok (.iconst 0, 1) := by decide +kernel
theorem dX7_decode_169 : decode cX7_decode 169 = .ok (.ireturn, 1) := by decide +kernel
theorem dX7_decode_170 : decode cX7_decode 170 = .ok (.aload_n 0, 1) := by decide +kernel
theorem dX7_decode_171 : decode cX7_decode 171 = .ok (.getfield 23, 3) := by decide +kernel
theorem dX7_decode_174 : decode cX7_decode 174 = .ok (.bipush 18, 2) := by decide +kernel
theorem dX7_decode_176 : decode cX7_decode 176 = .ok (.invokestatic 67, 3) := by decide +kernel
theorem dX7_decode_179 : decode cX7_decode 179 = .ok (.i2l, 1) := by decide +kernel
theorem dX7_decode_180 : decode cX7_decode 180 = .ok (.lload 5, 2) := by decide +kernel
theorem dX7_decode_182 : decode cX7_decode 182 = .ok (.lcmp, 1) := by decide +kernel
theorem dX7_decode_183 : decode cX7_decode 183 = .ok (.ifCond .ne 30, 3) := by decide +kernel
theorem dX7_decode_186 : decode cX7_decode 186 = .ok (.aload_n 0, 1) := by decide +kernel
theorem dX7_decode_187 : decode cX7_decode 187 = .ok (.getfield 23, 3) := by decide +kernel
theorem dX7_decode_190 : decode cX7_decode 190 = .ok (.bipush 23, 2) := by decide +kernel
theorem dX7_decode_192 : decode cX7_decode 192 = .ok (.invokestatic 99, 3) := by decide +kernel
theorem dX7_decode_195 : decode cX7_decode 195 = .ok (.iconst 2, 1) := by decide +kernel
theorem dX7_decode_196 : decode cX7_decode 196 = .ok (.if_icmp .gt 17, 3) := by decide +kernel
theorem dX7_decode_199 : decode cX7_decode 199 = .ok (.aload_n 0, 1) := by decide +kernel
theorem dX7_decode_200 : decode cX7_decode 200 = .ok (.getfield 23, 3) := by decide +kernel
theorem dX7_decode_203 : decode cX7_decode 203 = .ok (.bipush 20, 2) := by decide +kernel
theorem dX7_decode_205 : decode cX7_decode 205 = .ok (.invokestatic 99, 3) := by decide +kernel
theorem dX7_decode_208 : decode cX7_decode 208 = .ok (.bipush 16, 2) := by decide +kernel
theorem dX7_decode_210 : decode cX7_decode 210 = .ok (.if_icmp .le 5, 3) := by decide +kernel
theorem dX7_decode_213 : decode cX7_decode 213 = .ok (.iconst 0, 1) := by decide +kernel
theorem dX7_decode_214 : decode cX7_decode 214 = .ok (.ireturn, 1) := by decide +kernel
theorem dX7_decode_215 : decode cX7_decode 215 = .ok (.aload_n 0, 1) := by decide +kernel
theorem dX7_decode_216 : decode cX7_decode 216 = .ok (.lload 5, 2) := by decide +kernel
theorem dX7_decode_218 : decode cX7_decode 218 = .ok (.l2i, 1) := by decide +kernel
theorem dX7_decode_219 : decode cX7_decode 219 = .ok (.putfield 27, 3) := by decide +kernel
theorem dX7_decode_222 : decode cX7_decode 222 = .ok (.aload_n 0, 1) := by decide +kernel
theorem dX7_decode_223 : decode cX7_decode 223 = .ok (.getfield 23, 3) := by decide +kernel
theorem dX7_decode_226 : decode cX7_decode 226 = .ok (.bipush 23, 2) := by decide +kernel
theorem dX7_decode_228 : decode cX7_decode 228 = .ok (.baload, 1) := by decide +kernel
theorem dX7_decode_229 : decode cX7_decode 229 = .ok (.ifCond .gt 16, 3) := by decide +kernel
theorem dX7_decode_232 : decode cX7_decode 232 = .ok (.aload_n 0, 1) := by decide +kernel
theorem dX7_decode_233 : decode cX7_decode 233 = .ok (.getfield 30, 3) := by decide +kernel
theorem dX7_decode_236 : decode cX7_decode 236 = .ok (.aload_n 0, 1) := by decide +kernel
theorem dX7_decode_237 : decode cX7_decode 237 = .ok (.getfield 27, 3) := by decide +kernel
theorem dX7_decode_240 : decode cX7_decode 240 = .ok (.iconst 1, 1) := by decide +kernel
theorem dX7_decode_241 : decode cX7_decode 241 = .ok (.isub, 1) := by decide +kernel
theorem dX7_decode_242 : decode cX7_decode 242 = .ok (.if_icmp .ne 11, 3) := by decide +kernel
theorem dX7_decode_245 : decode cX7_decode 245 = .ok (.aload_n 0, 1) := by decide +kernel
theorem dX7_decode_246 : decode cX7_decode 246 = .ok (.aload_n 0, 1) := by decide +kernel
theorem dX7_decode_247 : decode cX7_decode 247 = .ok (.getfield 27, 3) := by decide +kernel
theorem dX7_decode_250 : decode cX7_decode 250 = .ok (.invokevirtual 102, 3) := by decide +kernel
theorem dX7_decode_253 : decode cX7_decode 253 = .ok (.iconst 1, 1) := by decide +kernel
theorem dX7_decode_254 : decode cX7_decode 254 = .ok (.ireturn, 1) := by decide +kernel
theorem dX7_readStamp_0 : decode cX7_readStamp 0 = .ok (.aload_n 0, 1) := by decide +kernel
theorem dX7_readStamp_1 : decode cX7_readStamp 1 = .ok (.getfield 23, 3) := by decide +kernel
theorem dX7_readStamp_4 : decode cX7_readStamp 4 = .ok (.bipush 9, 2) := by decide +kernel
theorem dX7_readStamp_6 : decode cX7_readStamp 6 = .ok (.baload, 1) := by decide +kernel
theorem dX7_readStamp_7 : decode cX7_readStamp 7 = .ok (.iconst 1, 1) := by decide +kernel
theorem dX7_readStamp_8 : decode cX7_readStamp 8 = .ok (.ishr, 1) := by decide +kernel
theorem dX7_readStamp_9 : decode cX7_readStamp 9 = .ok (.bipush 7, 2) := by decide +kernel
theorem dX7_readStamp_11 : decode cX7_readStamp 11 = .ok (.iand, 1) := by decide +kernel
theorem dX7_readStamp_12 : decode cX7_readStamp 12 = .ok (.i2l, 1) := by decide +kernel
theorem dX7_readStamp_13 : decode cX7_readStamp 13 = .ok (.lstore_n 1, 1) := by decide +kernel
theorem dX7_readStamp_14 : decode cX7_readStamp 14 = .ok (.lload_n 1, 1) := by decide +kernel
theorem dX7_readStamp_15 : decode cX7_readStamp 15 = .ok (.bipush 8, 2) := by decide +kernel
theorem dX7_readStamp_17 : decode cX7_readStamp 17 = .ok (.lshl, 1) := by decide +kernel
theorem dX7_readStamp_18 : decode cX7_readStamp 18 = .ok (.aload_n 0, 1) := by decide +kernel
theorem dX7_readStamp_19 : decode cX7_readStamp 19 = .ok (.getfield 23, 3) := by decide +kernel
theorem dX7_readStamp_22 : decode cX7_readStamp 22 = .ok (.bipush 10, 2) := by decide +kernel
theorem dX7_readStamp_24 : decode cX7_readStamp 24 = .ok (.invokestatic 99, 3) := by decide +kernel
theorem dX7_readStamp_27 : decode cX7_readStamp 27 = .ok (.i2l, 1) := by decide +kernel
theorem dX7_readStamp_28 : decode cX7_readStamp 28 = .ok (.lor, 1) := by decide +kernel
theorem dX7_readStamp_29 : decode cX7_readStamp 29 = .ok (.lstore_n 1, 1) := by decide +kernel
theorem dX7_readStamp_30 : decode cX7_readStamp 30 = .ok (.lload_n 1, 1) := by decide +kernel
theorem dX7_readStamp_31 : decode cX7_readStamp 31 = .ok (.bipush 7, 2) := by decide +kernel
theorem dX7_readStamp_33 : decode cX7_readStamp 33 = .ok (.lshl, 1) := by decide +kernel
theorem dX7_readStamp_34 : decode cX7_readStamp 34 = .ok (.aload_n 0, 1) := by decide +kernel
theorem dX7_readStamp_35 : decode cX7_readStamp 35 = .ok (.getfield 23, 3) := by decide +kernel
theorem dX7_readStamp_38 : decode cX7_readStamp 38 = .ok (.bipush 11, 2) := by decide +kernel
theorem dX7_readStamp_40 : decode cX7_readStamp 40 = .ok (.baload, 1) := by decide +kernel
theorem dX7_readStamp_41 : decode cX7_readStamp 41 = .ok (.iconst 1, 1) := by decide +kernel
theorem dX7_readStamp_42 : decode cX7_readStamp 42 = .ok (.ishr, 1) := by decide +kernel
theorem dX7_readStamp_43 : decode cX7_readStamp 43 = .ok (.bipush 127, 2) := by decide +kernel
theorem dX7_readStamp_45 : decode cX7_readStamp 45 = .ok (.iand, 1) := by decide +kernel
theorem dX7_readStamp_46 : decode cX7_readStamp 46 = .ok (.i2l, 1) := by decide +kernel
theorem dX7_readStamp_47 : decode cX7_readStamp 47 = .ok (.lor, 1) := by decide +kernel
theorem dX7_readStamp_48 : decode cX7_readStamp 48 = .ok (.lstore_n 1, 1) := by decide +kernel
theorem dX7_readStamp_49 : decode cX7_readStamp 49 = .ok (.lload_n 1, 1) := by decide +kernel
theorem dX7_readStamp_50 : decode cX7_readStamp 50 = .ok (.bipush 8, 2) := by decide +kernel
theorem dX7_readStamp_52 : decode cX7_readStamp 52 = .ok (.lshl, 1) := by decide +kernel
theorem dX7_readStamp_53 : decode cX7_readStamp 53 = .ok (.aload_n 0, 1) := by decide +kernel
theorem dX7_readStamp_54 : decode cX7_readStamp 54 = .ok (.getfield 23, 3) := by decide +kernel
theorem dX7_readStamp_57 : decode cX7_readStamp 57 = .ok (.bipush 12, 2) := by decide +kernel
theorem dX7_readStamp_59 : decode cX7_readStamp 59 = .ok (.invokestatic 99, 3) := by decide +kernel
theorem dX7_readStamp_62 : decode cX7_readStamp 62 = .ok (.i2l, 1) := by decide +kernel
theorem dX7_readStamp_63 : decode cX7_readStamp 63 = .ok (.lor, 1) := by decide +kernel
theorem dX7_readStamp_64 : decode cX7_readStamp 64 = .ok (.lstore_n 1, 1) := by decide +kernel
theorem dX7_readStamp_65 : decode cX7_readStamp 65 = .ok (.lload_n 1, 1) := by decide +kernel
theorem dX7_readStamp_66 : decode cX7_readStamp 66 = .ok (.bipush 7, 2) := by decide +kernel
theorem dX7_readStamp_68 : decode cX7_readStamp 68 = .ok (.lshl, 1) := by decide +kernel
theorem dX7_readStamp_69 : decode cX7_readStamp 69 = .ok (.aload_n 0, 1) := by decide +kernel
theorem dX7_readStamp_70 : decode cX7_readStamp 70 = .ok (.getfield 23, 3) := by decide +kernel
theorem dX7_readStamp_73 : decode cX7_readStamp 73 = .ok (.bipush 13, 2) := by decide +kernel
theorem dX7_readStamp_75 : decode cX7_readStamp 75 = .ok (.baload, 1) := by decide +kernel
theorem dX7_readStamp_76 : decode cX7_readStamp 76 = .ok (.iconst 1, 1) := by decide +kernel
theorem dX7_readStamp_77 : decode cX7_readStamp 77 = .ok (.ishr, 1) := by decide +kernel
theorem dX7_readStamp_78 : decode cX7_readStamp 78 = .ok (.bipush 127, 2) := by decide +kernel
theorem dX7_readStamp_80 : decode cX7_readStamp 80 = .ok (.iand, 1) := by decide +kernel
theorem dX7_readStamp_81 : decode cX7_readStamp 81 = .ok (.i2l, 1) := by decide +kernel
theorem dX7_readStamp_82 : decode cX7_readStamp 82 = .ok (.lor, 1) := by decide +kernel
theorem dX7_readStamp_83 : decode cX7_readStamp 83 = .ok (.lreturn, 1) := by decide +kernel
theorem dX7_show_0 : decode cX7_show 0 = .ok (.aload_n 0, 1) := by decide +kernel
theorem dX7_show_1 : decode cX7_show 1 = .ok (.iload_n 1, 1) := by decide +kernel
theorem dX7_show_2 : decode cX7_show 2 = .ok (.putfield 30, 3) := by decide +kernel
theorem dX7_show_5 : decode cX7_show 5 = .ok (.iload_n 1, 1) := by decide +kernel
theorem dX7_show_6 : decode cX7_show 6 = .ok (.iconst 5, 1) := by decide +kernel
theorem dX7_show_7 : decode cX7_show 7 = .ok (.imul, 1) := by decide +kernel
theorem dX7_show_8 : decode cX7_show 8 = .ok (.istore_n 2, 1) := by decide +kernel
theorem dX7_show_9 : decode cX7_show 9 = .ok (.aload_n 0, 1) := by decide +kernel
theorem dX7_show_10 : decode cX7_show 10 = .ok (.getfield 23, 3) := by decide +kernel
theorem dX7_show_13 : decode cX7_show 13 = .ok (.bipush 20, 2) := by decide +kernel
theorem dX7_show_15 : decode cX7_show 15 = .ok (.baload, 1) := by decide +kernel
theorem dX7_show_16 : decode cX7_show 16 = .ok (.iconst 1, 1) := by decide +kernel
theorem dX7_show_17 : decode cX7_show 17 = .ok (.isub, 1) := by decide +kernel
theorem dX7_show_18 : decode cX7_show 18 = .ok (.istore_n 3, 1) := by decide +kernel
theorem dX7_show_19 : decode cX7_show 19 = .ok (.aload_n 0, 1) := by decide +kernel
theorem dX7_show_20 : decode cX7_show 20 = .ok (.getfield 33, 3) := by decide +kernel
theorem dX7_show_23 : decode cX7_show 23 = .ok (.iload_n 2, 1) := by decide +kernel
theorem dX7_show_24 : decode cX7_show 24 = .ok (.iconst 0, 1) := by decide +kernel
theorem dX7_show_25 : decode cX7_show 25 = .ok (.iadd, 1) := by decide +kernel
theorem dX7_show_26 : decode cX7_show 26 = .ok (.iconst 1, 1) := by decide +kernel
theorem dX7_show_27 : decode cX7_show 27 = .ok (.iastore, 1) := by decide +kernel
theorem dX7_show_28 : decode cX7_show 28 = .ok (.aload_n 0, 1) := by decide +kernel
theorem dX7_show_29 : decode cX7_show 29 = .ok (.getfield 33, 3) := by decide +kernel
theorem dX7_show_32 : decode cX7_show 32 = .ok (.iload_n 2, 1) := by decide +kernel
theorem dX7_show_33 : decode cX7_show 33 = .ok (.iconst 1, 1) := by decide +kernel
theorem dX7_show_34 : decode cX7_show 34 = .ok (.iadd, 1) := by decide +kernel
theorem dX7_show_35 : decode cX7_show 35 = .ok (.iload_n 3, 1) := by decide +kernel
theorem dX7_show_36 : decode cX7_show 36 = .ok (.iastore, 1) := by decide +kernel
theorem dX7_show_37 : decode cX7_show 37 = .ok (.aload_n 0, 1) := by decide +kernel
theorem dX7_show_38 : decode cX7_show 38 = .ok (.getfield 33, 3) := by decide +kernel
theorem dX7_show_41 : decode cX7_show 41 = .ok (.iload_n 2, 1) := by decide +kernel
theorem dX7_show_42 : decode cX7_show 42 = .ok (.iconst 2, 1) := by decide +kernel
theorem dX7_show_43 : decode cX7_show 43 = .ok (.iadd, 1) := by decide +kernel
theorem dX7_show_44 : decode cX7_show 44 = .ok (.iload_n 3, 1) := by decide +kernel
theorem dX7_show_45 : decode cX7_show 45 = .ok (.iconst (-1), 1) := by decide +kernel
theorem dX7_show_46 : decode cX7_show 46 = .ok (.if_icmp .ne 7, 3) := by decide +kernel
theorem dX7_show_49 : decode cX7_show 49 = .ok (.iconst (-1), 1) := by decide +kernel
theorem dX7_show_50 : decode cX7_show 50 = .ok (.goto 12, 3) := by decide +kernel
theorem dX7_show_53 : decode cX7_show 53 = .ok (.aload_n 0, 1) := by decide +kernel
theorem dX7_show_54 : decode cX7_show 54 = .ok (.getfield 23, 3) := by decide +kernel
theorem dX7_show_57 : decode cX7_show 57 = .ok (.bipush 21, 2) := by decide +kernel
theorem dX7_show_59 : decode cX7_show 59 = .ok (.invokestatic 67, 3) := by decide +kernel
theorem dX7_show_62 : decode cX7_show 62 = .ok (.iastore, 1) := by decide +kernel
theorem dX7_show_63 : decode cX7_show 63 = .ok (.aload_n 0, 1) := by decide +kernel
theorem dX7_show_64 : decode cX7_show 64 = .ok (.getfield 33, 3) := by decide +kernel
theorem dX7_show_67 : decode cX7_show 67 = .ok (.iload_n 2, 1) := by decide +kernel
theorem dX7_show_68 : decode cX7_show 68 = .ok (.iconst 3, 1) := by decide +kernel
theorem dX7_show_69 : decode cX7_show 69 = .ok (.iadd, 1) := by decide +kernel
theorem dX7_show_70 : decode cX7_show 70 = .ok (.aload_n 0, 1) := by decide +kernel
theorem dX7_show_71 : decode cX7_show 71 = .ok (.getfield 23, 3) := by decide +kernel
theorem dX7_show_74 : decode cX7_show 74 = .ok (.bipush 23, 2) := by decide +kernel
theorem dX7_show_76 : decode cX7_show 76 = .ok (.baload, 1) := by decide +kernel
theorem dX7_show_77 : decode cX7_show 77 = .ok (.iastore, 1) := by decide +kernel
theorem dX7_show_78 : decode cX7_show 78 = .ok (.aload_n 0, 1) := by decide +kernel
theorem dX7_show_79 : decode cX7_show 79 = .ok (.getfield 33, 3) := by decide +kernel
theorem dX7_show_82 : decode cX7_show 82 = .ok (.iload_n 2, 1) := by decide +kernel
theorem dX7_show_83 : decode cX7_show 83 = .ok (.iconst 4, 1) := by decide +kernel
theorem dX7_show_84 : decode cX7_show 84 = .ok (.iadd, 1) := by decide +kernel
theorem dX7_show_85 : decode cX7_show 85 = .ok (.aload_n 0, 1) := by decide +kernel
theorem dX7_show_86 : decode cX7_show 86 = .ok (.getfield 23, 3) := by decide +kernel
theorem dX7_show_89 : decode cX7_show 89 = .ok (.bipush 24, 2) := by decide +kernel
theorem dX7_show_91 : decode cX7_show 91 = .ok (.invokestatic 67, 3) := by decide +kernel
theorem dX7_show_94 : decode cX7_show 94 = .ok (.iastore, 1) := by decide +kernel
theorem dX7_show_95 : decode cX7_show 95 = .ok (.return_, 1) := by decide +kernel
theorem dX7_isDecoded_0 : decode cX7_isDecoded 0 = .ok (.aload_n 0, 1) := by decide +kernel
theorem dX7_isDecoded_1 : decode cX7_isDecoded 1 = .ok (.getfield 33, 3) := by decide +kernel
theorem dX7_isDecoded_4 : decode cX7_isDecoded 4 = .ok (.iload_n 1, 1) := by decide +kernel
theorem dX7_isDecoded_5 : decode cX7_isDecoded 5 = .ok (.iconst 5, 1) := by decide +kernel
theorem dX7_isDecoded_6 : decode cX7_isDecoded 6 = .ok (.imul, 1) := by decide +kernel
theorem dX7_isDecoded_7 : decode cX7_isDecoded 7 = .ok (.iconst 0, 1) := by decide +kernel
theorem dX7_isDecoded_8 : decode cX7_isDecoded 8 = .ok (.iadd, 1) := by decide +kernel
theorem dX7_isDecoded_9 : decode cX7_isDecoded 9 = .ok (.iaload, 1) := by decide +kernel
theorem dX7_isDecoded_10 : decode cX7_isDecoded 10 = .ok (.iconst 1, 1) := by decide +kernel
theorem dX7_isDecoded_11 : decode cX7_isDecoded 11 = .ok (.if_icmp .ne 7, 3) := by decide +kernel
theorem dX7_isDecoded_14 : decode cX7_isDecoded 14 = .ok (.iconst 1, 1) := by decide +kernel
theorem dX7_isDecoded_15 : decode cX7_isDecoded 15 = .ok (.goto 4, 3) := by decide +kernel
theorem dX7_isDecoded_18 : decode cX7_isDecoded 18 = .ok (.iconst 0, 1) := by decide +kernel
theorem dX7_isDecoded_19 : decode cX7_isDecoded 19 = .ok (.ireturn, 1) := by decide +kernel
theorem dX7_decodedAs_0 : decode cX7_decodedAs 0 = .ok (.iload_n 1, 1) := by decide +kernel
theorem dX7_decodedAs_1 : decode cX7_decodedAs 1 = .ok (.iconst 5, 1) := by decide +kernel
theorem dX7_decodedAs_2 : decode cX7_decodedAs 2 = .ok (.imul, 1) := by decide +kernel
theorem dX7_decodedAs_3 : decode cX7_decodedAs 3 = .ok (.istore 4, 2) := by decide +kernel
theorem dX7_decodedAs_5 : decode cX7_decodedAs 5 = .ok (.aload_n 0, 1) := by decide +kernel
theorem dX7_decodedAs_6 : decode cX7_decodedAs 6 = .ok (.iload_n 1, 1) := by decide +kernel
theorem dX7_decodedAs_7 : decode cX7_decodedAs 7 = .ok (.invokevirtual 105, 3) := by decide +kernel
theorem dX7_decodedAs_10 : decode cX7_decodedAs 10 = .ok (.ifCond .eq 33, 3) := by decide +kernel
theorem dX7_decodedAs_13 : decode cX7_decodedAs 13 = .ok (.aload_n 0, 1) := by decide +kernel
theorem dX7_decodedAs_14 : decode cX7_decodedAs 14 = .ok (.getfield 33, 3) := by decide +kernel
theorem dX7_decodedAs_17 : decode cX7_decodedAs 17 = .ok (.iload 4, 2) := by decide +kernel
theorem dX7_decodedAs_19 : decode cX7_decodedAs 19 = .ok (.iconst 1, 1) := by decide +kernel
theorem dX7_decodedAs_20 : decode cX7_decodedAs 20 = .ok (.iadd, 1) := by decide +kernel
theorem dX7_decodedAs_21 : decode cX7_decodedAs 21 = .ok (.iaload, 1) := by decide +kernel
theorem dX7_decodedAs_22 : decode cX7_decodedAs 22 = .ok (.iload_n 2, 1) := by decide +kernel
theorem dX7_decodedAs_23 : decode cX7_decodedAs 23 = .ok (.if_icmp .ne 20, 3) := by decide +kernel
theorem dX7_decodedAs_26 : decode cX7_decodedAs 26 = .ok (.aload_n 0, 1) := by decide +kernel
theorem dX7_decodedAs_27 : decode cX7_decodedAs 27 = .ok (.getfield 33, 3) := by decide +kernel
theorem dX7_decodedAs_30 : decode cX7_decodedAs 30 = .ok (.iload 4, 2) := by decide +kernel
theorem dX7_decodedAs_32 : decode cX7_decodedAs 32 = .ok (.iconst 2, 1) := by decide +kernel
theorem dX7_decodedAs_33 : decode cX7_decodedAs 33 = .ok (.iadd, 1) := by decide +kernel
theorem dX7_decodedAs_34 : decode cX7_decodedAs 34 = .ok (.iaload, 1) := by decide +kernel
theorem dX7_decodedAs_35 : decode cX7_decodedAs 35 = .ok (.iload_n 3, 1) := by decide +kernel
theorem dX7_decodedAs_36 : decode cX7_decodedAs 36 = .ok (.if_icmp .ne 7, 3) := by decide +kernel
theorem dX7_decodedAs_39 : decode cX7_decodedAs 39 = .ok (.iconst 1, 1) := by decide +kernel
theorem dX7_decodedAs_40 : decode cX7_decodedAs 40 = .ok (.goto 4, 3) := by decide +kernel
theorem dX7_decodedAs_43 : decode cX7_decodedAs 43 = .ok (.iconst 0, 1) := by decide +kernel
theorem dX7_decodedAs_44 : decode cX7_decodedAs 44 = .ok (.ireturn, 1) := by decide +kernel
theorem dX7_keyOf_0 : decode cX7_keyOf 0 = .ok (.aload_n 0, 1) := by decide +kernel
theorem dX7_keyOf_1 : decode cX7_keyOf 1 = .ok (.getfield 33, 3) := by decide +kernel
theorem dX7_keyOf_4 : decode cX7_keyOf 4 = .ok (.iload_n 1, 1) := by decide +kernel
theorem dX7_keyOf_5 : decode cX7_keyOf 5 = .ok (.iconst 5, 1) := by decide +kernel
theorem dX7_keyOf_6 : decode cX7_keyOf 6 = .ok (.imul, 1) := by decide +kernel
theorem dX7_keyOf_7 : decode cX7_keyOf 7 = .ok (.iconst 3, 1) := by decide +kernel
theorem dX7_keyOf_8 : decode cX7_keyOf 8 = .ok (.iadd, 1) := by decide +kernel
theorem dX7_keyOf_9 : decode cX7_keyOf 9 = .ok (.iaload, 1) := by decide +kernel
theorem dX7_keyOf_10 : decode cX7_keyOf 10 = .ok (.ireturn, 1) := by decide +kernel
theorem dX7_leftOf_0 : decode cX7_leftOf 0 = .ok (.aload_n 0, 1) := by decide +kernel
theorem dX7_leftOf_1 : decode cX7_leftOf 1 = .ok (.getfield 33, 3) := by decide +kernel
theorem dX7_leftOf_4 : decode cX7_leftOf 4 = .ok (.iload_n 1, 1) := by decide +kernel
theorem dX7_leftOf_5 : decode cX7_leftOf 5 = .ok (.iconst 5, 1) := by decide +kernel
theorem dX7_leftOf_6 : decode cX7_leftOf 6 = .ok (.imul, 1) := by decide +kernel
theorem dX7_leftOf_7 : decode cX7_leftOf 7 = .ok (.iconst 4, 1) := by decide +kernel
theorem dX7_leftOf_8 : decode cX7_leftOf 8 = .ok (.iadd, 1) := by decide +kernel
theorem dX7_leftOf_9 : decode cX7_leftOf 9 = .ok (.iaload, 1) := by decide +kernel
theorem dX7_leftOf_10 : decode cX7_leftOf 10 = .ok (.ireturn, 1) := by decide +kernel
theorem dX7_finishFrame_0 : decode cX7_finishFrame 0 = .ok (.iload_n 1, 1) := by decide +kernel
theorem dX7_finishFrame_1 : decode cX7_finishFrame 1 = .ok (.iconst 5, 1) := by decide +kernel
theorem dX7_finishFrame_2 : decode cX7_finishFrame 2 = .ok (.imul, 1) := by decide +kernel
theorem dX7_finishFrame_3 : decode cX7_finishFrame 3 = .ok (.istore_n 2, 1) := by decide +kernel
theorem dX7_finishFrame_4 : decode cX7_finishFrame 4 = .ok (.aload_n 0, 1) := by decide +kernel
theorem dX7_finishFrame_5 : decode cX7_finishFrame 5 = .ok (.iload_n 1, 1) := by decide +kernel
theorem dX7_finishFrame_6 : decode cX7_finishFrame 6 = .ok (.invokevirtual 105, 3) := by decide +kernel
theorem dX7_finishFrame_9 : decode cX7_finishFrame 9 = .ok (.ifCond .ne 55, 3) := by decide +kernel
theorem dX7_finishFrame_12 : decode cX7_finishFrame 12 = .ok (.aload_n 0, 1) := by decide +kernel
theorem dX7_finishFrame_13 : decode cX7_finishFrame 13 = .ok (.getfield 33, 3) := by decide +kernel
theorem dX7_finishFrame_16 : decode cX7_finishFrame 16 = .ok (.iload_n 2, 1) := by decide +kernel
theorem dX7_finishFrame_17 : decode cX7_finishFrame 17 = .ok (.iconst 1, 1) := by decide +kernel
theorem dX7_finishFrame_18 : decode cX7_finishFrame 18 = .ok (.iadd, 1) := by decide +kernel
theorem dX7_finishFrame_19 : decode cX7_finishFrame 19 = .ok (.iload_n 1, 1) := by decide +kernel
theorem dX7_finishFrame_20 : decode cX7_finishFrame 20 = .ok (.ifCond .ne 7, 3) := by decide +kernel
theorem dX7_finishFrame_23 : decode cX7_finishFrame 23 = .ok (.iconst (-1), 1) := by decide +kernel
theorem dX7_finishFrame_24 : decode cX7_finishFrame 24 = .ok (.goto 13, 3) := by decide +kernel
theorem dX7_finishFrame_27 : decode cX7_finishFrame 27 = .ok (.aload_n 0, 1) := by decide +kernel
theorem dX7_finishFrame_28 : decode cX7_finishFrame 28 = .ok (.getfield 33, 3) := by decide +kernel
theorem dX7_finishFrame_31 : decode cX7_finishFrame 31 = .ok (.iload_n 2, 1) := by decide +kernel
theorem dX7_finishFrame_32 : decode cX7_finishFrame 32 = .ok (.iconst 5, 1) := by decide +kernel
theorem dX7_finishFrame_33 : decode cX7_finishFrame 33 = .ok (.isub, 1) := by decide +kernel
theorem dX7_finishFrame_34 : decode cX7_finishFrame 34 = .ok (.iconst 1, 1) := by decide +kernel
theorem dX7_finishFrame_35 : decode cX7_finishFrame 35 = .ok (.iadd, 1) := by decide +kernel
theorem dX7_finishFrame_36 : decode cX7_finishFrame 36 = .ok (.iaload, 1) := by decide +kernel
theorem dX7_finishFrame_37 : decode cX7_finishFrame 37 = .ok (.iastore, 1) := by decide +kernel
theorem dX7_finishFrame_38 : decode cX7_finishFrame 38 = .ok (.aload_n 0, 1) := by decide +kernel
theorem dX7_finishFrame_39 : decode cX7_finishFrame 39 = .ok (.getfield 33, 3) := by decide +kernel
theorem dX7_finishFrame_42 : decode cX7_finishFrame 42 = .ok (.iload_n 2, 1) := by decide +kernel
theorem dX7_finishFrame_43 : decode cX7_finishFrame 43 = .ok (.iconst 2, 1) := by decide +kernel
theorem dX7_finishFrame_44 : decode cX7_finishFrame 44 = .ok (.iadd, 1) := by decide +kernel
theorem dX7_finishFrame_45 : decode cX7_finishFrame 45 = .ok (.iload_n 1, 1) := by decide +kernel
theorem dX7_finishFrame_46 : decode cX7_finishFrame 46 = .ok (.ifCond .ne 7, 3) := by decide +kernel
theorem dX7_finishFrame_49 : decode cX7_finishFrame 49 = .ok (.iconst (-1), 1) := by decide +kernel
theorem dX7_finishFrame_50 : decode cX7_finishFrame 50 = .ok (.goto 13, 3) := by decide +kernel
theorem dX7_finishFrame_53 : decode cX7_finishFrame 53 = .ok (.aload_n 0, 1) := by decide +kernel
theorem dX7_finishFrame_54 : decode cX7_finishFrame 54 = .ok (.getfield 33, 3) := by decide +kernel
theorem dX7_finishFrame_57 : decode cX7_finishFrame 57 = .ok (.iload_n 2, 1) := by decide +kernel
theorem dX7_finishFrame_58 : decode cX7_finishFrame 58 = .ok (.iconst 5, 1) := by decide +kernel
theorem dX7_finishFrame_59 : decode cX7_finishFrame 59 = .ok (.isub, 1) := by decide +kernel
theorem dX7_finishFrame_60 : decode cX7_finishFrame 60 = .ok (.iconst 2, 1) := by decide +kernel
theorem dX7_finishFrame_61 : decode cX7_finishFrame 61 = .ok (.iadd, 1) := by decide +kernel
theorem dX7_finishFrame_62 : decode cX7_finishFrame 62 = .ok (.iaload, 1) := by decide +kernel
theorem dX7_finishFrame_63 : decode cX7_finishFrame 63 = .ok (.iastore, 1) := by decide +kernel
theorem dX7_finishFrame_64 : decode cX7_finishFrame 64 = .ok (.aload_n 0, 1) := by decide +kernel
theorem dX7_finishFrame_65 : decode cX7_finishFrame 65 = .ok (.iconst 0, 1) := by decide +kernel
theorem dX7_finishFrame_66 : decode cX7_finishFrame 66 = .ok (.aload_n 0, 1) := by decide +kernel
theorem dX7_finishFrame_67 : decode cX7_finishFrame 67 = .ok (.getfield 33, 3) := by decide +kernel
theorem dX7_finishFrame_70 : decode cX7_finishFrame 70 = .ok (.iload_n 2, 1) := by decide +kernel
theorem dX7_finishFrame_71 : decode cX7_finishFrame 71 = .ok (.iconst 1, 1) := by decide +kernel
theorem dX7_finishFrame_72 : decode cX7_finishFrame 72 = .ok (.iadd, 1) := by decide +kernel
theorem dX7_finishFrame_73 : decode cX7_finishFrame 73 = .ok (.iaload, 1) := by decide +kernel
theorem dX7_finishFrame_74 : decode cX7_finishFrame 74 = .ok (.iconst (-1), 1) := by decide +kernel
theorem dX7_finishFrame_75 : decode cX7_finishFrame 75 = .ok (.if_icmp .ne 7, 3) := by decide +kernel
theorem dX7_finishFrame_78 : decode cX7_finishFrame 78 = .ok (.iconst 1, 1) := by decide +kernel
theorem dX7_finishFrame_79 : decode cX7_finishFrame 79 = .ok (.goto 4, 3) := by decide +kernel
theorem dX7_finishFrame_82 : decode cX7_finishFrame 82 = .ok (.iconst 0, 1) := by decide +kernel
theorem dX7_finishFrame_83 : decode cX7_finishFrame 83 = .ok (.bipush 10, 2) := by decide +kernel
theorem dX7_finishFrame_85 : decode cX7_finishFrame 85 = .ok (.iload_n 1, 1) := by decide +kernel
theorem dX7_finishFrame_86 : decode cX7_finishFrame 86 = .ok (.invokevirtual 109, 3) := by decide +kernel
theorem dX7_finishFrame_89 : decode cX7_finishFrame 89 = .ok (.aload_n 0, 1) := by decide +kernel
theorem dX7_finishFrame_90 : decode cX7_finishFrame 90 = .ok (.iconst 1, 1) := by decide +kernel
theorem dX7_finishFrame_91 : decode cX7_finishFrame 91 = .ok (.aload_n 0, 1) := by decide +kernel
theorem dX7_finishFrame_92 : decode cX7_finishFrame 92 = .ok (.iload_n 1, 1) := by decide +kernel
theorem dX7_finishFrame_93 : decode cX7_finishFrame 93 = .ok (.invokevirtual 105, 3) := by decide +kernel
theorem dX7_finishFrame_96 : decode cX7_finishFrame 96 = .ok (.ifCond .ne 7, 3) := by decide +kernel
theorem dX7_finishFrame_99 : decode cX7_finishFrame 99 = .ok (.iconst 1, 1) := by decide +kernel
theorem dX7_finishFrame_100 : decode cX7_finishFrame 100 = .ok (.goto 4, 3) := by decide +kernel
theorem dX7_finishFrame_103 : decode cX7_finishFrame 103 = .ok (.iconst 0, 1) := by decide +kernel
theorem dX7_finishFrame_104 : decode cX7_finishFrame 104 = .ok (.iconst 5, 1) := by decide +kernel
theorem dX7_finishFrame_105 : decode cX7_finishFrame 105 = .ok (.iload_n 1, 1) := by decide +kernel
theorem dX7_finishFrame_106 : decode cX7_finishFrame 106 = .ok (.invokevirtual 109, 3) := by decide +kernel
theorem dX7_finishFrame_109 : decode cX7_finishFrame 109 = .ok (.return_, 1) := by decide +kernel
theorem dX7_watch_0 : decode cX7_watch 0 = .ok (.aload_n 0, 1) := by decide +kernel
theorem dX7_watch_1 : decode cX7_watch 1 = .ok (.getfield 40, 3) := by decide +kernel
theorem dX7_watch_4 : decode cX7_watch 4 = .ok (.iload_n 1, 1) := by decide +kernel
theorem dX7_watch_5 : decode cX7_watch 5 = .ok (.iload_n 2, 1) := by decide +kernel
theorem dX7_watch_6 : decode cX7_watch 6 = .ok (.ifCond .eq 14, 3) := by decide +kernel
theorem dX7_watch_9 : decode cX7_watch 9 = .ok (.aload_n 0, 1) := by decide +kernel
theorem dX7_watch_10 : decode cX7_watch 10 = .ok (.getfield 40, 3) := by decide +kernel
theorem dX7_watch_13 : decode cX7_watch 13 = .ok (.iload_n 1, 1) := by decide +kernel
theorem dX7_watch_14 : decode cX7_watch 14 = .ok (.iaload, 1) := by decide +kernel
theorem dX7_watch_15 : decode cX7_watch 15 = .ok (.iconst 1, 1) := by decide +kernel
theorem dX7_watch_16 : decode cX7_watch 16 = .ok (.iadd, 1) := by decide +kernel
theorem dX7_watch_17 : decode cX7_watch 17 = .ok (.goto 4, 3) := by decide +kernel
theorem dX7_watch_20 : decode cX7_watch 20 = .ok (.iconst 0, 1) := by decide +kernel
theorem dX7_watch_21 : decode cX7_watch 21 = .ok (.iastore, 1) := by decide +kernel
theorem dX7_watch_22 : decode cX7_watch 22 = .ok (.iload_n 2, 1) := by decide +kernel
theorem dX7_watch_23 : decode cX7_watch 23 = .ok (.ifCond .ne 37, 3) := by decide +kernel
theorem dX7_watch_26 : decode cX7_watch 26 = .ok (.aload_n 0, 1) := by decide +kernel
theorem dX7_watch_27 : decode cX7_watch 27 = .ok (.getfield 43, 3) := by decide +kernel
theorem dX7_watch_30 : decode cX7_watch 30 = .ok (.iload_n 1, 1) := by decide +kernel
theorem dX7_watch_31 : decode cX7_watch 31 = .ok (.iaload, 1) := by decide +kernel
theorem dX7_watch_32 : decode cX7_watch 32 = .ok (.iconst (-1), 1) := by decide +kernel
theorem dX7_watch_33 : decode cX7_watch 33 = .ok (.if_icmp .eq 27, 3) := by decide +kernel
theorem dX7_watch_36 : decode cX7_watch 36 = .ok (.aload_n 0, 1) := by decide +kernel
theorem dX7_watch_37 : decode cX7_watch 37 = .ok (.getfield 37, 3) := by decide +kernel
theorem dX7_watch_40 : decode cX7_watch 40 = .ok (.aload_n 0, 1) := by decide +kernel
theorem dX7_watch_41 : decode cX7_watch 41 = .ok (.getfield 43, 3) := by decide +kernel
theorem dX7_watch_44 : decode cX7_watch 44 = .ok (.iload_n 1, 1) := by decide +kernel
theorem dX7_watch_45 : decode cX7_watch 45 = .ok (.iaload, 1) := by decide +kernel
theorem dX7_watch_46 : decode cX7_watch 46 = .ok (.iconst 3, 1) := by decide +kernel
theorem dX7_watch_47 : decode cX7_watch 47 = .ok (.imul, 1) := by decide +kernel
theorem dX7_watch_48 : decode cX7_watch 48 = .ok (.iconst 2, 1) := by decide +kernel
theorem dX7_watch_49 : decode cX7_watch 49 = .ok (.iadd, 1) := by decide +kernel
theorem dX7_watch_50 : decode cX7_watch 50 = .ok (.iload 4, 2) := by decide +kernel
theorem dX7_watch_52 : decode cX7_watch 52 = .ok (.iastore, 1) := by decide +kernel
theorem dX7_watch_53 : decode cX7_watch 53 = .ok (.aload_n 0, 1) := by decide +kernel
theorem dX7_watch_54 : decode cX7_watch 54 = .ok (.getfield 43, 3) := by decide +kernel
theorem dX7_watch_57 : decode cX7_watch 57 = .ok (.iload_n 1, 1) := by decide +kernel
theorem dX7_watch_58 : decode cX7_watch 58 = .ok (.iconst (-1), 1) := by decide +kernel
theorem dX7_watch_59 : decode cX7_watch 59 = .ok (.iastore, 1) := by decide +kernel
theorem dX7_watch_60 : decode cX7_watch 60 = .ok (.aload_n 0, 1) := by decide +kernel
theorem dX7_watch_61 : decode cX7_watch 61 = .ok (.getfield 40, 3) := by decide +kernel
theorem dX7_watch_64 : decode cX7_watch 64 = .ok (.iload_n 1, 1) := by decide +kernel
theorem dX7_watch_65 : decode cX7_watch 65 = .ok (.iaload, 1) := by decide +kernel
theorem dX7_watch_66 : decode cX7_watch 66 = .ok (.iload_n 3, 1) := by decide +kernel
theorem dX7_watch_67 : decode cX7_watch 67 = .ok (.if_icmp .ne 13, 3) := by decide +kernel
theorem dX7_watch_70 : decode cX7_watch 70 = .ok (.aload_n 0, 1) := by decide +kernel
theorem dX7_watch_71 : decode cX7_watch 71 = .ok (.getfield 113, 3) := by decide +kernel
theorem dX7_watch_74 : decode cX7_watch 74 = .ok (.sipush 774, 3) := by decide +kernel
theorem dX7_watch_77 : decode cX7_watch 77 = .ok (.if_icmp .lt 4, 3) := by decide +kernel
theorem dX7_watch_80 : decode cX7_watch 80 = .ok (.return_, 1) := by decide +kernel
theorem dX7_watch_81 : decode cX7_watch 81 = .ok (.aload_n 0, 1) := by decide +kernel
theorem dX7_watch_82 : decode cX7_watch 82 = .ok (.getfield 113, 3) := by decide +kernel
theorem dX7_watch_85 : decode cX7_watch 85 = .ok (.iconst 3, 1) := by decide +kernel
theorem dX7_watch_86 : decode cX7_watch 86 = .ok (.imul, 1) := by decide +kernel
theorem dX7_watch_87 : decode cX7_watch 87 = .ok (.istore 5, 2) := by decide +kernel
theorem dX7_watch_89 : decode cX7_watch 89 = .ok (.aload_n 0, 1) := by decide +kernel
theorem dX7_watch_90 : decode cX7_watch 90 = .ok (.getfield 37, 3) := by decide +kernel
theorem dX7_watch_93 : decode cX7_watch 93 = .ok (.iload 5, 2) := by decide +kernel
theorem dX7_watch_95 : decode cX7_watch 95 = .ok (.iload_n 1, 1) := by decide +kernel
theorem dX7_watch_96 : decode cX7_watch 96 = .ok (.iastore, 1) := by decide +kernel
theorem dX7_watch_97 : decode cX7_watch 97 = .ok (.aload_n 0, 1) := by decide +kernel
theorem dX7_watch_98 : decode cX7_watch 98 = .ok (.getfield 37, 3) := by decide +kernel
theorem dX7_watch_101 : decode cX7_watch 101 = .ok (.iload 5, 2) := by decide +kernel
theorem dX7_watch_103 : decode cX7_watch 103 = .ok (.iconst 1, 1) := by decide +kernel
theorem dX7_watch_104 : decode cX7_watch 104 = .ok (.iadd, 1) := by decide +kernel
theorem dX7_watch_105 : decode cX7_watch 105 = .ok (.iload 4, 2) := by decide +kernel
theorem dX7_watch_107 : decode cX7_watch 107 = .ok (.iastore, 1) := by decide +kernel
theorem dX7_watch_108 : decode cX7_watch 108 = .ok (.aload_n 0, 1) := by decide +kernel
theorem dX7_watch_109 : decode cX7_watch 109 = .ok (.getfield 37, 3) := by decide +kernel
theorem dX7_watch_112 : decode cX7_watch 112 = .ok (.iload 5, 2) := by decide +kernel
theorem dX7_watch_114 : decode cX7_watch 114 = .ok (.iconst 2, 1) := by decide +kernel
theorem dX7_watch_115 : decode cX7_watch 115 = .ok (.iadd, 1) := by decide +kernel
theorem dX7_watch_116 : decode cX7_watch 116 = .ok (.iconst (-1), 1) := by decide +kernel
theorem dX7_watch_117 : decode cX7_watch 117 = .ok (.iastore, 1) := by decide +kernel
theorem dX7_watch_118 : decode cX7_watch 118 = .ok (.aload_n 0, 1) := by decide +kernel
theorem dX7_watch_119 : decode cX7_watch 119 = .ok (.getfield 43, 3) := by decide +kernel
theorem dX7_watch_122 : decode cX7_watch 122 = .ok (.iload_n 1, 1) := by decide +kernel
theorem dX7_watch_123 : decode cX7_watch 123 = .ok (.aload_n 0, 1) := by decide +kernel
theorem dX7_watch_124 : decode cX7_watch 124 = .ok (.dup, 1) := by decide +kernel
theorem dX7_watch_125 : decode cX7_watch 125 = .ok (.getfield 113, 3) := by decide +kernel
theorem dX7_watch_128 : decode cX7_watch 128 = .ok (.dup_x1, 1) := by decide +kernel
theorem dX7_watch_129 : decode cX7_watch 129 = .ok (.iconst 1, 1) := by decide +kernel
theorem dX7_watch_130 : decode cX7_watch 130 = .ok (.iadd, 1) := by decide +kernel
theorem dX7_watch_131 : decode cX7_watch 131 = .ok (.putfield 113, 3) := by decide +kernel
theorem dX7_watch_134 : decode cX7_watch 134 = .ok (.iastore, 1) := by decide +kernel
theorem dX7_watch_135 : decode cX7_watch 135 = .ok (.return_, 1) := by decide +kernel
theorem dX8_init_0 : decode cX8_init 0 = .ok (.aload_n 0, 1) := by decide +kernel
theorem dX8_init_1 : decode cX8_init 1 = .ok (.invokespecial 3, 3) := by decide +kernel
theorem dX8_init_4 : decode cX8_init 4 = .ok (.aload_n 0, 1) := by decide +kernel
theorem dX8_init_5 : decode cX8_init 5 = .ok (.new 9, 3) := by decide +kernel
theorem dX8_init_8 : decode cX8_init 8 = .ok (.dup, 1) := by decide +kernel
theorem dX8_init_9 : decode cX8_init 9 = .ok (.sipush 12000, 3) := by decide +kernel
theorem dX8_init_12 : decode cX8_init 12 = .ok (.invokespecial 13, 3) := by decide +kernel
theorem dX8_init_15 : decode cX8_init 15 = .ok (.putfield 16, 3) := by decide +kernel
theorem dX8_init_18 : decode cX8_init 18 = .ok (.aload_n 0, 1) := by decide +kernel
theorem dX8_init_19 : decode cX8_init 19 = .ok (.sipush 6000, 3) := by decide +kernel
theorem dX8_init_22 : decode cX8_init 22 = .ok (.newarray .int, 2) := by decide +kernel
theorem dX8_init_24 : decode cX8_init 24 = .ok (.putfield 20, 3) := by decide +kernel
theorem dX8_init_27 : decode cX8_init 27 = .ok (.aload_n 0, 1) := by decide +kernel
theorem dX8_init_28 : decode cX8_init 28 = .ok (.bipush 12, 2) := by decide +kernel
theorem dX8_init_30 : decode cX8_init 30 = .ok (.newarray .int, 2) := by decide +kernel
theorem dX8_init_32 : decode cX8_init 32 = .ok (.putfield 24, 3) := by decide +kernel
theorem dX8_init_35 : decode cX8_init 35 = .ok (.return_, 1) := by decide +kernel
theorem dX8_finishFrame_0 : decode cX8_finishFrame 0 = .ok (.aload_n 2, 1) := by decide +kernel
theorem dX8_finishFrame_1 : decode cX8_finishFrame 1 = .ok (.iload_n 1, 1) := by decide +kernel
theorem dX8_finishFrame_2 : decode cX8_finishFrame 2 = .ok (.invokevirtual 27, 3) := by decide +kernel
theorem dX8_finishFrame_5 : decode cX8_finishFrame 5 = .ok (.istore_n 3, 1) := by decide +kernel
theorem dX8_finishFrame_6 : decode cX8_finishFrame 6 = .ok (.aload_n 2, 1) := by decide +kernel
theorem dX8_finishFrame_7 : decode cX8_finishFrame 7 = .ok (.iload_n 1, 1) := by decide +kernel
theorem dX8_finishFrame_8 : decode cX8_finishFrame 8 = .ok (.invokevirtual 33, 3) := by decide +kernel
theorem dX8_finishFrame_11 : decode cX8_finishFrame 11 = .ok (.istore 4, 2) := by decide +kernel
theorem dX8_finishFrame_13 : decode cX8_finishFrame 13 = .ok (.aload_n 0, 1) := by decide +kernel
theorem dX8_finishFrame_14 : decode cX8_finishFrame 14 = .ok (.getfield 37, 3) := by decide +kernel
theorem dX8_finishFrame_17 : decode cX8_finishFrame 17 = .ok (.aload_n 0, 1) := by decide +kernel
theorem dX8_finishFrame_18 : decode cX8_finishFrame 18 = .ok (.getfield 41, 3) := by decide +kernel
theorem dX8_finishFrame_21 : decode cX8_finishFrame 21 = .ok (.if_icmp .ge 12, 3) := by decide +kernel
theorem dX8_finishFrame_24 : decode cX8_finishFrame 24 = .ok (.iload_n 3, 1) := by decide +kernel
theorem dX8_finishFrame_25 : decode cX8_finishFrame 25 = .ok (.ifCond .eq 13, 3) := by decide +kernel
theorem dX8_finishFrame_28 : decode cX8_finishFrame 28 = .ok (.iload 4, 2) := by decide +kernel
theorem dX8_finishFrame_30 : decode cX8_finishFrame 30 = .ok (.ifCond .ne 8, 3) := by decide +kernel
theorem dX8_finishFrame_33 : decode cX8_finishFrame 33 = .ok (.aload_n 0, 1) := by decide +kernel
theorem dX8_finishFrame_34 : decode cX8_finishFrame 34 = .ok (.iconst 0, 1) := by decide +kernel
theorem dX8_finishFrame_35 : decode cX8_finishFrame 35 = .ok (.putfield 44, 3) := by decide +kernel
theorem dX8_finishFrame_38 : decode cX8_finishFrame 38 = .ok (.aload_n 0, 1) := by decide +kernel
theorem dX8_finishFrame_39 : decode cX8_finishFrame 39 = .ok (.getfield 44, 3) := by decide +kernel
theorem dX8_finishFrame_42 : decode cX8_finishFrame 42 = .ok (.ifCond .ne 31, 3) := by decide +kernel
theorem dX8_finishFrame_45 : decode cX8_finishFrame 45 = .ok (.iload_n 3, 1) := by decide +kernel
theorem dX8_finishFrame_46 : decode cX8_finishFrame 46 = .ok (.ifCond .eq 27, 3) := by decide +kernel
theorem dX8_finishFrame_49 : decode cX8_finishFrame 49 = .ok (.aload_n 2, 1) := by decide +kernel
theorem dX8_finishFrame_50 : decode cX8_finishFrame 50 = .ok (.iload_n 1, 1) := by decide +kernel
theorem dX8_finishFrame_51 : decode cX8_finishFrame 51 = .ok (.invokevirtual 48, 3) := by decide +kernel
theorem dX8_finishFrame_54 : decode cX8_finishFrame 54 = .ok (.iconst 2, 1) := by decide +kernel
theorem dX8_finishFrame_55 : decode cX8_finishFrame 55 = .ok (.if_icmp .ne 18, 3) := by decide +kernel
theorem dX8_finishFrame_58 : decode cX8_finishFrame 58 = .ok (.iload 4, 2) := by decide +kernel
theorem dX8_finishFrame_60 : decode cX8_finishFrame 60 = .ok (.ifCond .le 13, 3) := by decide +kernel
theorem dX8_finishFrame_63 : decode cX8_finishFrame 63 = .ok (.aload_n 0, 1) := by decide +kernel
theorem dX8_finishFrame_64 : decode cX8_finishFrame 64 = .ok (.aload_n 0, 1) := by decide +kernel
theorem dX8_finishFrame_65 : decode cX8_finishFrame 65 = .ok (.iload 4, 2) := by decide +kernel
theorem dX8_finishFrame_67 : decode cX8_finishFrame 67 = .ok (.invokevirtual 51, 3) := by decide +kernel
theorem dX8_finishFrame_70 : decode cX8_finishFrame 70 = .ok (.putfield 44, 3) := by decide +kernel
theorem dX8_finishFrame_73 : decode cX8_finishFrame 73 = .ok (.aload_n 0, 1) := by decide +kernel
theorem dX8_finishFrame_74 : decode cX8_finishFrame 74 = .ok (.getfield 20, 3) := by decide +kernel
theorem dX8_finishFrame_77 : decode cX8_finishFrame 77 = .ok (.iload_n 1, 1) := by decide +kernel
theorem dX8_finishFrame_78 : decode cX8_finishFrame 78 = .ok (.iconst 2, 1) := by decide +kernel
theorem dX8_finishFrame_79 : decode cX8_finishFrame 79 = .ok (.imul, 1) := by decide +kernel
theorem dX8_finishFrame_80 : decode cX8_finishFrame 80 = .ok (.aload_n 0, 1) := by decide +kernel
theorem dX8_finishFrame_81 : decode cX8_finishFrame 81 = .ok (.getfield 44, 3) := by decide +kernel
theorem dX8_finishFrame_84 : decode cX8_finishFrame 84 = .ok (.ifCond .eq 17, 3) := by decide +kernel
theorem dX8_finishFrame_87 : decode cX8_finishFrame 87 = .ok (.iconst 1, 1) := by decide +kernel
theorem dX8_finishFrame_88 : decode cX8_finishFrame 88 = .ok (.aload_n 0, 1) := by decide +kernel
theorem dX8_finishFrame_89 : decode cX8_finishFrame 89 = .ok (.getfield 24, 3) := by decide +kernel
theorem dX8_finishFrame_92 : decode cX8_finishFrame 92 = .ok (.aload_n 0, 1) := by decide +kernel
theorem dX8_finishFrame_93 : decode cX8_finishFrame 93 = .ok (.getfield 37, 3) := by decide +kernel
theorem dX8_finishFrame_96 : decode cX8_finishFrame 96 = .ok (.iaload, 1) := by decide +kernel
theorem dX8_finishFrame_97 : decode cX8_finishFrame 97 = .ok (.iadd, 1) := by decide +kernel
theorem dX8_finishFrame_98 : decode cX8_finishFrame 98 = .ok (.goto 4, 3) := by decide +kernel
theorem dX8_finishFrame_101 : decode cX8_finishFrame 101 = .ok (.iconst 0, 1) := by decide +kernel
theorem dX8_finishFrame_102 : decode cX8_finishFrame 102 = .ok (.iastore, 1) := by decide +kernel
theorem dX8_finishFrame_103 : decode cX8_finishFrame 103 = .ok (.aload_n 0, 1) := by decide +kernel
theorem dX8_finishFrame_104 : decode cX8_finishFrame 104 = .ok (.getfield 20, 3) := by decide +kernel
theorem dX8_finishFrame_107 : decode cX8_finishFrame 107 = .ok (.iload_n 1, 1) := by decide +kernel
theorem dX8_finishFrame_108 : decode cX8_finishFrame 108 = .ok (.iconst 2, 1) := by decide +kernel
theorem dX8_finishFrame_109 : decode cX8_finishFrame 109 = .ok (.imul, 1) := by decide +kernel
theorem dX8_finishFrame_110 : decode cX8_finishFrame 110 = .ok (.iconst 1, 1) := by decide +kernel
theorem dX8_finishFrame_111 : decode cX8_finishFrame 111 = .ok (.iadd, 1) := by decide +kernel
theorem dX8_finishFrame_112 : decode cX8_finishFrame 112 = .ok (.aload_n 0, 1) := by decide +kernel
theorem dX8_finishFrame_113 : decode cX8_finishFrame 113 = .ok (.getfield 44, 3) := by decide +kernel
theorem dX8_finishFrame_116 : decode cX8_finishFrame 116 = .ok (.ifCond .eq 10, 3) := by decide +kernel
theorem dX8_finishFrame_119 : decode cX8_finishFrame 119 = .ok (.aload_n 0, 1) := by decide +kernel
theorem dX8_finishFrame_120 : decode cX8_finishFrame 120 = .ok (.getfield 54, 3) := by decide +kernel
theorem dX8_finishFrame_123 : decode cX8_finishFrame 123 = .ok (.goto 4, 3) := by decide +kernel
theorem dX8_finishFrame_126 : decode cX8_finishFrame 126 = .ok (.iconst (-1), 1) := by decide +kernel
theorem dX8_finishFrame_127 : decode cX8_finishFrame 127 = .ok (.iastore, 1) := by decide +kernel
theorem dX8_finishFrame_128 : decode cX8_finishFrame 128 = .ok (.aload_n 0, 1) := by decide +kernel
theorem dX8_finishFrame_129 : decode cX8_finishFrame 129 = .ok (.getfield 44, 3) := by decide +kernel
theorem dX8_finishFrame_132 : decode cX8_finishFrame 132 = .ok (.ifCond .eq 7, 3) := by decide +kernel
theorem dX8_finishFrame_135 : decode cX8_finishFrame 135 = .ok (.aload_n 0, 1) := by decide +kernel
theorem dX8_finishFrame_136 : decode cX8_finishFrame 136 = .ok (.invokevirtual 57, 3) := by decide +kernel
theorem dX8_finishFrame_139 : decode cX8_finishFrame 139 = .ok (.return_, 1) := by decide +kernel
theorem dX8_choosePieces_0 : decode cX8_choosePieces 0 = .ok (.iload_n 1, 1) := by decide +kernel
theorem dX8_choosePieces_1 : decode cX8_choosePieces 1 = .ok (.istore_n 2, 1) := by decide +kernel
theorem dX8_choosePieces_2 : decode cX8_choosePieces 2 = .ok (.aload_n 0, 1) := by decide +kernel
theorem dX8_choosePieces_3 : decode cX8_choosePieces 3 = .ok (.iconst 0, 1) := by decide +kernel
theorem dX8_choosePieces_4 : decode cX8_choosePieces 4 = .ok (.putfield 37, 3) := by decide +kernel
theorem dX8_choosePieces_7 : decode cX8_choosePieces 7 = .ok (.aload_n 0, 1) := by decide +kernel
theorem dX8_choosePieces_8 : decode cX8_choosePieces 8 = .ok (.iconst 0, 1) := by decide +kernel
theorem dX8_choosePieces_9 : decode cX8_choosePieces 9 = .ok (.putfield 54, 3) := by decide +kernel
theorem dX8_choosePieces_12 : decode cX8_choosePieces 12 = .ok (.aload_n 0, 1) := by decide +kernel
theorem dX8_choosePieces_13 : decode cX8_choosePieces 13 = .ok (.iconst 0, 1) := by decide +kernel
theorem dX8_choosePieces_14 : decode cX8_choosePieces 14 = .ok (.putfield 41, 3) := by decide +kernel
theorem dX8_choosePieces_17 : decode cX8_choosePieces 17 = .ok (.aload_n 0, 1) := by decide +kernel
theorem dX8_choosePieces_18 : decode cX8_choosePieces 18 = .ok (.getfield 41, 3) := by decide +kernel
theorem dX8_choosePieces_21 : decode cX8_choosePieces 21 = .ok (.aload_n 0, 1) := by decide +kernel
theorem dX8_choosePieces_22 : decode cX8_choosePieces 22 = .ok (.getfield 24, 3) := by decide +kernel
theorem dX8_choosePieces_25 : decode cX8_choosePieces 25 = .ok (.arraylength, 1) := by decide +kernel
theorem dX8_choosePieces_26 : decode cX8_choosePieces 26 = .ok (.if_icmp .ge 58, 3) := by decide +kernel
theorem dX8_choosePieces_29 : decode cX8_choosePieces 29 = .ok (.iload_n 2, 1) := by decide +kernel
theorem dX8_choosePieces_30 : decode cX8_choosePieces 30 = .ok (.ifCond .le 54, 3) := by decide +kernel
theorem dX8_choosePieces_33 : decode cX8_choosePieces 33 = .ok (.aload_n 0, 1) := by decide +kernel
theorem dX8_choosePieces_34 : decode cX8_choosePieces 34 = .ok (.getfield 16, 3) := by decide +kernel
theorem dX8_choosePieces_37 : decode cX8_choosePieces 37 = .ok (.iload_n 2, 1) := by decide +kernel
theorem dX8_choosePieces_38 : decode cX8_choosePieces 38 = .ok (.invokevirtual 60, 3) := by decide +kernel
theorem dX8_choosePieces_41 : decode cX8_choosePieces 41 = .ok (.istore_n 3, 1) := by decide +kernel
theorem dX8_choosePieces_42 : decode cX8_choosePieces 42 = .ok (.iload_n 3, 1) := by decide +kernel
theorem dX8_choosePieces_43 : decode cX8_choosePieces 43 = .ok (.iconst (-1), 1) := by decide +kernel
theorem dX8_choosePieces_44 : decode cX8_choosePieces 44 = .ok (.if_icmp .ne 5, 3) := by decide +kernel
theorem dX8_choosePieces_47 : decode cX8_choosePieces 47 = .ok (.iconst 0, 1) := by decide +kernel
theorem dX8_choosePieces_48 : decode cX8_choosePieces 48 = .ok (.ireturn, 1) := by decide +kernel
theorem dX8_choosePieces_49 : decode cX8_choosePieces 49 = .ok (.aload_n 0, 1) := by decide +kernel
theorem dX8_choosePieces_50 : decode cX8_choosePieces 50 = .ok (.getfield 24, 3) := by decide +kernel
theorem dX8_choosePieces_53 : decode cX8_choosePieces 53 = .ok (.aload_n 0, 1) := by decide +kernel
theorem dX8_choosePieces_54 : decode cX8_choosePieces 54 = .ok (.getfield 41, 3) := by decide +kernel
theorem dX8_choosePieces_57 : decode cX8_choosePieces 57 = .ok (.iload_n 3, 1) := by decide +kernel
theorem dX8_choosePieces_58 : decode cX8_choosePieces 58 = .ok (.iastore, 1) := by decide +kernel
theorem dX8_choosePieces_59 : decode cX8_choosePieces 59 = .ok (.iload_n 2, 1) := by decide +kernel
theorem dX8_choosePieces_60 : decode cX8_choosePieces 60 = .ok (.aload_n 0, 1) := by decide +kernel
theorem dX8_choosePieces_61 : decode cX8_choosePieces 61 = .ok (.getfield 16, 3) := by decide +kernel
theorem dX8_choosePieces_64 : decode cX8_choosePieces 64 = .ok (.getfield 63, 3) := by decide +kernel
theorem dX8_choosePieces_67 : decode cX8_choosePieces 67 = .ok (.iload_n 3, 1) := by decide +kernel
theorem dX8_choosePieces_68 : decode cX8_choosePieces 68 = .ok (.iaload, 1) := by decide +kernel
theorem dX8_choosePieces_69 : decode cX8_choosePieces 69 = .ok (.isub, 1) := by decide +kernel
theorem dX8_choosePieces_70 : decode cX8_choosePieces 70 = .ok (.istore_n 2, 1) := by decide +kernel
theorem dX8_choosePieces_71 : decode cX8_choosePieces 71 = .ok (.aload_n 0, 1) := by decide +kernel
theorem dX8_choosePieces_72 : decode cX8_choosePieces 72 = .ok (.dup, 1) := by decide +kernel
theorem dX8_choosePieces_73 : decode cX8_choosePieces 73 = .ok (.getfield 41, 3) := by decide +kernel
theorem dX8_choosePieces_76 : decode cX8_choosePieces 76 = .ok (.iconst 1, 1) := by decide +kernel
theorem dX8_choosePieces_77 : decode cX8_choosePieces 77 = .ok (.iadd, 1) := by decide +kernel
theorem dX8_choosePieces_78 : decode cX8_choosePieces 78 = .ok (.putfield 41, 3) := by decide +kernel
theorem dX8_choosePieces_81 : decode cX8_choosePieces 81 = .ok (.goto (-64), 3) := by decide +kernel
theorem dX8_choosePieces_84 : decode cX8_choosePieces 84 = .ok (.iload_n 2, 1) := by decide +kernel
theorem dX8_choosePieces_85 : decode cX8_choosePieces 85 = .ok (.ifCond .ne 7, 3) := by decide +kernel
theorem dX8_choosePieces_88 : decode cX8_choosePieces 88 = .ok (.iconst 1, 1) := by decide +kernel
theorem dX8_choosePieces_89 : decode cX8_choosePieces 89 = .ok (.goto 4, 3) := by decide +kernel
theorem dX8_choosePieces_92 : decode cX8_choosePieces 92 = .ok (.iconst 0, 1) := by decide +kernel
theorem dX8_choosePieces_93 : decode cX8_choosePieces 93 = .ok (.ireturn, 1) := by decide +kernel
theorem dX8_step_0 : decode cX8_step 0 = .ok (.aload_n 0, 1) := by decide +kernel
theorem dX8_step_1 : decode cX8_step 1 = .ok (.dup, 1) := by decide +kernel
theorem dX8_step_2 : decode cX8_step 2 = .ok (.getfield 54, 3) := by decide +kernel
theorem dX8_step_5 : decode cX8_step 5 = .ok (.iconst 1, 1) := by decide +kernel
theorem dX8_step_6 : decode cX8_step 6 = .ok (.iadd, 1) := by decide +kernel
theorem dX8_step_7 : decode cX8_step 7 = .ok (.putfield 54, 3) := by decide +kernel
theorem dX8_step_10 : decode cX8_step 10 = .ok (.aload_n 0, 1) := by decide +kernel
theorem dX8_step_11 : decode cX8_step 11 = .ok (.getfield 54, 3) := by decide +kernel
theorem dX8_step_14 : decode cX8_step 14 = .ok (.aload_n 0, 1) := by decide +kernel
theorem dX8_step_15 : decode cX8_step 15 = .ok (.getfield 16, 3) := by decide +kernel
theorem dX8_step_18 : decode cX8_step 18 = .ok (.getfield 63, 3) := by decide +kernel
theorem dX8_step_21 : decode cX8_step 21 = .ok (.aload_n 0, 1) := by decide +kernel
theorem dX8_step_22 : decode cX8_step 22 = .ok (.getfield 24, 3) := by decide +kernel
theorem dX8_step_25 : decode cX8_step 25 = .ok (.aload_n 0, 1) := by decide +kernel
theorem dX8_step_26 : decode cX8_step 26 = .ok (.getfield 37, 3) := by decide +kernel
theorem dX8_step_29 : decode cX8_step 29 = .ok (.iaload, 1) := by decide +kernel
theorem dX8_step_30 : decode cX8_step 30 = .ok (.iaload, 1) := by decide +kernel
theorem dX8_step_31 : decode cX8_step 31 = .ok (.if_icmp .ge 4, 3) := by decide +kernel
theorem dX8_step_34 : decode cX8_step 34 = .ok (.return_, 1) := by decide +kernel
theorem dX8_step_35 : decode cX8_step 35 = .ok (.aload_n 0, 1) := by decide +kernel
theorem dX8_step_36 : decode cX8_step 36 = .ok (.dup, 1) := by decide +kernel
theorem dX8_step_37 : decode cX8_step 37 = .ok (.getfield 37, 3) := by decide +kernel
theorem dX8_step_40 : decode cX8_step 40 = .ok (.iconst 1, 1) := by decide +kernel
theorem dX8_step_41 : decode cX8_step 41 = .ok (.iadd, 1) := by decide +kernel
theorem dX8_step_42 : decode cX8_step 42 = .ok (.putfield 37, 3) := by decide +kernel
theorem dX8_step_45 : decode cX8_step 45 = .ok (.aload_n 0, 1) := by decide +kernel
theorem dX8_step_46 : decode cX8_step 46 = .ok (.iconst 0, 1) := by decide +kernel
theorem dX8_step_47 : decode cX8_step 47 = .ok (.putfield 54, 3) := by decide +kernel
theorem dX8_step_50 : decode cX8_step 50 = .ok (.return_, 1) := by decide +kernel
theorem dX9_init_0 : decode cX9_init 0 = .ok (.aload_n 0, 1) := by decide +kernel
theorem dX9_init_1 : decode cX9_init 1 = .ok (.invokespecial 3, 3) := by decide +kernel
theorem dX9_init_4 : decode cX9_init 4 = .ok (.aload_n 0, 1) := by decide +kernel
theorem dX9_init_5 : decode cX9_init 5 = .ok (.ldc 9, 2) := by decide +kernel
theorem dX9_init_7 : decode cX9_init 7 = .ok (.newarray .byte, 2) := by decide +kernel
theorem dX9_init_9 : decode cX9_init 9 = .ok (.putfield 10, 3) := by decide +kernel
theorem dX9_init_12 : decode cX9_init 12 = .ok (.aload_n 0, 1) := by decide +kernel
theorem dX9_init_13 : decode cX9_init 13 = .ok (.sipush 188, 3) := by decide +kernel
theorem dX9_init_16 : decode cX9_init 16 = .ok (.newarray .byte, 2) := by decide +kernel
theorem dX9_init_18 : decode cX9_init 18 = .ok (.putfield 16, 3) := by decide +kernel
theorem dX9_init_21 : decode cX9_init 21 = .ok (.aload_n 0, 1) := by decide +kernel
theorem dX9_init_22 : decode cX9_init 22 = .ok (.bipush 7, 2) := by decide +kernel
theorem dX9_init_24 : decode cX9_init 24 = .ok (.newarray .int, 2) := by decide +kernel
theorem dX9_init_26 : decode cX9_init 26 = .ok (.putfield 19, 3) := by decide +kernel
theorem dX9_init_29 : decode cX9_init 29 = .ok (.aload_n 0, 1) := by decide +kernel
theorem dX9_init_30 : decode cX9_init 30 = .ok (.iload_n 1, 1) := by decide +kernel
theorem dX9_init_31 : decode cX9_init 31 = .ok (.putfield 23, 3) := by decide +kernel
theorem dX9_init_34 : decode cX9_init 34 = .ok (.aload_n 0, 1) := by decide +kernel
theorem dX9_init_35 : decode cX9_init 35 = .ok (.lload_n 2, 1) := by decide +kernel
theorem dX9_init_36 : decode cX9_init 36 = .ok (.putfield 27, 3) := by decide +kernel
theorem dX9_init_39 : decode cX9_init 39 = .ok (.aload_n 0, 1) := by decide +kernel
theorem dX9_init_40 : decode cX9_init 40 = .ok (.aload 4, 2) := by decide +kernel
theorem dX9_init_42 : decode cX9_init 42 = .ok (.putfield 31, 3) := by decide +kernel
theorem dX9_init_45 : decode cX9_init 45 = .ok (.aload_n 0, 1) := by decide +kernel
theorem dX9_init_46 : decode cX9_init 46 = .ok (.getfield 16, 3) := by decide +kernel
theorem dX9_init_49 : decode cX9_init 49 = .ok (.iconst (-1), 1) := by decide +kernel
theorem dX9_init_50 : decode cX9_init 50 = .ok (.invokestatic 35, 3) := by decide +kernel
theorem dX9_init_53 : decode cX9_init 53 = .ok (.aload_n 0, 1) := by decide +kernel
theorem dX9_init_54 : decode cX9_init 54 = .ok (.getfield 19, 3) := by decide +kernel
theorem dX9_init_57 : decode cX9_init 57 = .ok (.bipush 15, 2) := by decide +kernel
theorem dX9_init_59 : decode cX9_init 59 = .ok (.invokestatic 41, 3) := by decide +kernel
theorem dX9_init_62 : decode cX9_init 62 = .ok (.return_, 1) := by decide +kernel
theorem dX9_changeService_0 : decode cX9_changeService 0 = .ok (.iconst 0, 1) := by decide +kernel
theorem dX9_changeService_1 : decode cX9_changeService 1 = .ok (.istore_n 2, 1) := by decide +kernel
theorem dX9_changeService_2 : decode cX9_changeService 2 = .ok (.aload_n 0, 1) := by decide +kernel
theorem dX9_changeService_3 : decode cX9_changeService 3 = .ok (.getfield 31, 3) := by decide +kernel
theorem dX9_changeService_6 : decode cX9_changeService 6 = .ok (.astore_n 3, 1) := by decide +kernel
theorem dX9_changeService_7 : decode cX9_changeService 7 = .ok (.aload_n 3, 1) := by decide +kernel
theorem dX9_changeService_8 : decode cX9_changeService 8 = .ok (.arraylength, 1) := by decide +kernel
theorem dX9_changeService_9 : decode cX9_changeService 9 = .ok (.istore 4, 2) := by decide +kernel
theorem dX9_changeService_11 : decode cX9_changeService 11 = .ok (.iconst 0, 1) := by decide +kernel
theorem dX9_changeService_12 : decode cX9_changeService 12 = .ok (.istore 5, 2) := by decide +kernel
theorem dX9_changeService_14 : decode cX9_changeService 14 = .ok (.iload 5, 2) := by decide +kernel
theorem dX9_changeService_16 : decode cX9_changeService 16 = .ok (.iload 4, 2) := by decide +kernel
theorem dX9_changeService_18 : decode cX9_changeService 18 = .ok (.if_icmp .ge 26, 3) := by decide +kernel
theorem dX9_changeService_21 : decode cX9_changeService 21 = .ok (.aload_n 3, 1) := by decide +kernel
theorem dX9_changeService_22 : decode cX9_changeService 22 = .ok (.iload 5, 2) := by decide +kernel
theorem dX9_changeService_24 : decode cX9_changeService 24 = .ok (.aaload, 1) := by decide +kernel
theorem dX9_changeService_25 : decode cX9_changeService 25 = .ok (.astore 6, 2) := by decide +kernel
theorem dX9_changeService_27 : decode cX9_changeService 27 = .ok (.aload 6, 2) := by decide +kernel
theorem dX9_changeService_29 : decode cX9_changeService 29 = .ok (.iload_n 1, 1) := by decide +kernel
theorem dX9_changeService_30 : decode cX9_changeService 30 = .ok (.invokevirtual 44, 3) := by decide +kernel
theorem dX9_changeService_33 : decode cX9_changeService 33 = .ok (.ifCond .eq 5, 3) := by decide +kernel
theorem dX9_changeService_36 : decode cX9_changeService 36 = .ok (.iconst 1, 1) := by decide +kernel
theorem dX9_changeService_37 : decode cX9_changeService 37 = .ok (.istore_n 2, 1) := by decide +kernel
theorem dX9_changeService_38 : decode cX9_changeService 38 = .ok (.iinc 5 1, 3) := by decide +kernel
theorem dX9_changeService_41 : decode cX9_changeService 41 = .ok (.goto (-27), 3) := by decide +kernel
theorem dX9_changeService_44 : decode cX9_changeService 44 = .ok (.iload_n 2, 1) := by decide +kernel
theorem dX9_changeService_45 : decode cX9_changeService 45 = .ok (.ifCond .eq 16, 3) := by decide +kernel
theorem dX9_changeService_48 : decode cX9_changeService 48 = .ok (.aload_n 0, 1) := by decide +kernel
theorem dX9_changeService_49 : decode cX9_changeService 49 = .ok (.aload_n 0, 1) := by decide +kernel
theorem dX9_changeService_50 : decode cX9_changeService 50 = .ok (.getfield 50, 3) := by decide +kernel
theorem dX9_changeService_53 : decode cX9_changeService 53 = .ok (.iconst 1, 1) := by decide +kernel
theorem dX9_changeService_54 : decode cX9_changeService 54 = .ok (.iadd, 1) := by decide +kernel
theorem dX9_changeService_55 : decode cX9_changeService 55 = .ok (.bipush 31, 2) := by decide +kernel
theorem dX9_changeService_57 : decode cX9_changeService 57 = .ok (.iand, 1) := by decide +kernel
theorem dX9_changeService_58 : decode cX9_changeService 58 = .ok (.putfield 50, 3) := by decide +kernel
theorem dX9_changeService_61 : decode cX9_changeService 61 = .ok (.return_, 1) := by decide +kernel
theorem dX9_makePacket_0 : decode cX9_makePacket 0 = .ok (.aload_n 0, 1) := by decide +kernel
theorem dX9_makePacket_1 : decode cX9_makePacket 1 = .ok (.aload_n 0, 1) := by decide +kernel
theorem dX9_makePacket_2 : decode cX9_makePacket 2 = .ok (.getfield 53, 3) := by decide +kernel
theorem dX9_makePacket_5 : decode cX9_makePacket 5 = .ok (.sipush 256, 3) := by decide +kernel
theorem dX9_makePacket_8 : decode cX9_makePacket 8 = .ok (.irem, 1) := by decide +kernel
theorem dX9_makePacket_9 : decode cX9_makePacket 9 = .ok (.sipush 188, 3) := by decide +kernel
theorem dX9_makePacket_12 : decode cX9_makePacket 12 = .ok (.imul, 1) := by decide +kernel
theorem dX9_makePacket_13 : decode cX9_makePacket 13 = .ok (.putfield 56, 3) := by decide +kernel
theorem dX9_makePacket_16 : decode cX9_makePacket 16 = .ok (.aload_n 0, 1) := by decide +kernel
theorem dX9_makePacket_17 : decode cX9_makePacket 17 = .ok (.getfield 16, 3) := by decide +kernel
theorem dX9_makePacket_20 : decode cX9_makePacket 20 = .ok (.iconst 0, 1) := by decide +kernel
theorem dX9_makePacket_21 : decode cX9_makePacket 21 = .ok (.aload_n 0, 1) := by decide +kernel
theorem dX9_makePacket_22 : decode cX9_makePacket 22 = .ok (.getfield 10, 3) := by decide +kernel
theorem dX9_makePacket_25 : decode cX9_makePacket 25 = .ok (.aload_n 0, 1) := by decide +kernel
theorem dX9_makePacket_26 : decode cX9_makePacket 26 = .ok (.getfield 56, 3) := by decide +kernel
theorem dX9_makePacket_29 : decode cX9_makePacket 29 = .ok (.sipush 188, 3) := by decide +kernel
theorem dX9_makePacket_32 : decode cX9_makePacket 32 = .ok (.invokestatic 59, 3) := by decide +kernel
theorem dX9_makePacket_35 : decode cX9_makePacket 35 = .ok (.aload_n 0, 1) := by decide +kernel
theorem dX9_makePacket_36 : decode cX9_makePacket 36 = .ok (.invokevirtual 65, 3) := by decide +kernel
theorem dX9_makePacket_39 : decode cX9_makePacket 39 = .ok (.istore_n 3, 1) := by decide +kernel
theorem dX9_makePacket_40 : decode cX9_makePacket 40 = .ok (.iload_n 1, 1) := by decide +kernel
theorem dX9_makePacket_41 : decode cX9_makePacket 41 = .ok (.iconst 4, 1) := by decide +kernel
theorem dX9_makePacket_42 : decode cX9_makePacket 42 = .ok (.irem, 1) := by decide +kernel
theorem dX9_makePacket_43 : decode cX9_makePacket 43 = .ok (.ifCond .ne 9, 3) := by decide +kernel
theorem dX9_makePacket_46 : decode cX9_makePacket 46 = .ok (.iconst 1, 1) := by decide +kernel
theorem dX9_makePacket_47 : decode cX9_makePacket 47 = .ok (.iload_n 3, 1) := by decide +kernel
theorem dX9_makePacket_48 : decode cX9_makePacket 48 = .ok (.iadd, 1) := by decide +kernel
theorem dX9_makePacket_49 : decode cX9_makePacket 49 = .ok (.goto 4, 3) := by decide +kernel
theorem dX9_makePacket_52 : decode cX9_makePacket 52 = .ok (.iconst 0, 1) := by decide +kernel
theorem dX9_makePacket_53 : decode cX9_makePacket 53 = .ok (.istore 4, 2) := by decide +kernel
theorem dX9_makePacket_55 : decode cX9_makePacket 55 = .ok (.iload_n 2, 1) := by decide +kernel
theorem dX9_makePacket_56 : decode cX9_makePacket 56 = .ok (.iload 4, 2) := by decide +kernel
theorem dX9_makePacket_58 : decode cX9_makePacket 58 = .ok (.if_icmp .ge 15, 3) := by decide +kernel
theorem dX9_makePacket_61 : decode cX9_makePacket 61 = .ok (.iload_n 2, 1) := by decide +kernel
theorem dX9_makePacket_62 : decode cX9_makePacket 62 = .ok (.ifCond .ne 11, 3) := by decide +kernel
theorem dX9_makePacket_65 : decode cX9_makePacket 65 = .ok (.aload_n 0, 1) := by decide +kernel
theorem dX9_makePacket_66 : decode cX9_makePacket 66 = .ok (.iload_n 3, 1) := by decide +kernel
theorem dX9_makePacket_67 : decode cX9_makePacket 67 = .ok (.invokevirtual 69, 3) := by decide +kernel
theorem dX9_makePacket_70 : decode cX9_makePacket 70 = .ok (.goto 53, 3) := by decide +kernel
theorem dX9_makePacket_73 : decode cX9_makePacket 73 = .ok (.iload_n 2, 1) := by decide +kernel
theorem dX9_makePacket_74 : decode cX9_makePacket 74 = .ok (.iload 4, 2) := by decide +kernel
theorem dX9_makePacket_76 : decode cX9_makePacket 76 = .ok (.if_icmp .ge 17, 3) := by decide +kernel
theorem dX9_makePacket_79 : decode cX9_makePacket 79 = .ok (.aload_n 0, 1) := by decide +kernel
theorem dX9_makePacket_80 : decode cX9_makePacket 80 = .ok (.aload_n 0, 1) := by decide +kernel
theorem dX9_makePacket_81 : decode cX9_makePacket 81 = .ok (.iload_n 2, 1) := by decide +kernel
theorem dX9_makePacket_82 : decode cX9_makePacket 82 = .ok (.iconst 1, 1) := by decide +kernel
theorem dX9_makePacket_83 : decode cX9_makePacket 83 = .ok (.isub, 1) := by decide +kernel
theorem dX9_makePacket_84 : decode cX9_makePacket 84 = .ok (.invokevirtual 73, 3) := by decide +kernel
theorem dX9_makePacket_87 : decode cX9_makePacket 87 = .ok (.invokevirtual 77, 3) := by decide +kernel
theorem dX9_makePacket_90 : decode cX9_makePacket 90 = .ok (.goto 33, 3) := by decide +kernel
theorem dX9_makePacket_93 : decode cX9_makePacket 93 = .ok (.iload_n 2, 1) := by decide +kernel
theorem dX9_makePacket_94 : decode cX9_makePacket 94 = .ok (.iload 4, 2) := by decide +kernel
theorem dX9_makePacket_96 : decode cX9_makePacket 96 = .ok (.iload_n 3, 1) := by decide +kernel
theorem dX9_makePacket_97 : decode cX9_makePacket 97 = .ok (.iadd, 1) := by decide +kernel
theorem dX9_makePacket_98 : decode cX9_makePacket 98 = .ok (.if_icmp .ge 20, 3) := by decide +kernel
theorem dX9_makePacket_101 : decode cX9_makePacket 101 = .ok (.aload_n 0, 1) := by decide +kernel
theorem dX9_makePacket_102 : decode cX9_makePacket 102 = .ok (.aload_n 0, 1) := by decide +kernel
theorem dX9_makePacket_103 : decode cX9_makePacket 103 = .ok (.iload_n 2, 1) := by decide +kernel
theorem dX9_makePacket_104 : decode cX9_makePacket 104 = .ok (.iload 4, 2) := by decide +kernel
theorem dX9_makePacket_106 : decode cX9_makePacket 106 = .ok (.isub, 1) := by decide +kernel
theorem dX9_makePacket_107 : decode cX9_makePacket 107 = .ok (.invokevirtual 73, 3) := by decide +kernel
theorem dX9_makePacket_110 : decode cX9_makePacket 110 = .ok (.iload_n 1, 1) := by decide +kernel
theorem dX9_makePacket_111 : decode cX9_makePacket 111 = .ok (.iconst 1, 1) := by decide +kernel
theorem dX9_makePacket_112 : decode cX9_makePacket 112 = .ok (.invokevirtual 80, 3) := by decide +kernel
theorem dX9_makePacket_115 : decode cX9_makePacket 115 = .ok (.goto 8, 3) := by decide +kernel
theorem dX9_makePacket_118 : decode cX9_makePacket 118 = .ok (.aload_n 0, 1) := by decide +kernel
theorem dX9_makePacket_119 : decode cX9_makePacket 119 = .ok (.iload_n 1, 1) := by decide +kernel
theorem dX9_makePacket_120 : decode cX9_makePacket 120 = .ok (.invokevirtual 84, 3) := by decide +kernel
theorem dX9_makePacket_123 : decode cX9_makePacket 123 = .ok (.aload_n 0, 1) := by decide +kernel
theorem dX9_makePacket_124 : decode cX9_makePacket 124 = .ok (.dup, 1) := by decide +kernel
theorem dX9_makePacket_125 : decode cX9_makePacket 125 = .ok (.getfield 53, 3) := by decide +kernel
theorem dX9_makePacket_128 : decode cX9_makePacket 128 = .ok (.iconst 1, 1) := by decide +kernel
theorem dX9_makePacket_129 : decode cX9_makePacket 129 = .ok (.iadd, 1) := by decide +kernel
theorem dX9_makePacket_130 : decode cX9_makePacket 130 = .ok (.putfield 53, 3) := by decide +kernel
theorem dX9_makePacket_133 : decode cX9_makePacket 133 = .ok (.return_, 1) := by decide +kernel
theorem dX9_countServing_0 : decode cX9_countServing 0 = .ok (.iconst 0, 1) := by decide +kernel
theorem dX9_countServing_1 : decode cX9_countServing 1 = .ok (.istore_n 1, 1) := by decide +kernel
theorem dX9_countServing_2 : decode cX9_countServing 2 = .ok (.aload_n 0, 1) := by decide +kernel
theorem dX9_countServing_3 : decode cX9_countServing 3 = .ok (.getfield 31, 3) := by decide +kernel
theorem dX9_countServing_6 : decode cX9_countServing 6 = .ok (.astore_n 2, 1) := by decide +kernel
theorem dX9_countServing_7 : decode cX9_countServing 7 = .ok (.aload_n 2, 1) := by decide +kernel
theorem dX9_countServing_8 : decode cX9_countServing 8 = .ok (.arraylength, 1) := by decide +kernel
theorem dX9_countServing_9 : decode cX9_countServing 9 = .ok (.istore_n 3, 1) := by decide +kernel
theorem dX9_countServing_10 : decode cX9_countServing 10 = .ok (.iconst 0, 1) := by decide +kernel
theorem dX9_countServing_11 : decode cX9_countServing 11 = .ok (.istore 4, 2) := by decide +kernel
theorem dX9_countServing_13 : decode cX9_countServing 13 = .ok (.iload 4, 2) := by decide +kernel
theorem dX9_countServing_15 : decode cX9_countServing 15 = .ok (.iload_n 3, 1) := by decide +kernel
theorem dX9_countServing_16 : decode cX9_countServing 16 = .ok (.if_icmp .ge 26, 3) := by decide +kernel
theorem dX9_countServing_19 : decode cX9_countServing 19 = .ok (.aload_n 2, 1) := by decide +kernel
theorem dX9_countServing_20 : decode cX9_countServing 20 = .ok (.iload 4, 2) := by decide +kernel
theorem dX9_countServing_22 : decode cX9_countServing 22 = .ok (.aaload, 1) := by decide +kernel
theorem dX9_countServing_23 : decode cX9_countServing 23 = .ok (.astore 5, 2) := by decide +kernel
theorem dX9_countServing_25 : decode cX9_countServing 25 = .ok (.aload 5, 2) := by decide +kernel
theorem dX9_countServing_27 : decode cX9_countServing 27 = .ok (.getfield 87, 3) := by decide +kernel
theorem dX9_countServing_30 : decode cX9_countServing 30 = .ok (.ifCond .eq 6, 3) := by decide +kernel
theorem dX9_countServing_33 : decode cX9_countServing 33 = .ok (.iinc 1 1, 3) := by decide +kernel
theorem dX9_countServing_36 : decode cX9_countServing 36 = .ok (.iinc 4 1, 3) := by decide +kernel
theorem dX9_countServing_39 : decode cX9_countServing 39 = .ok (.goto (-26), 3) := by decide +kernel
theorem dX9_countServing_42 : decode cX9_countServing 42 = .ok (.iload_n 1, 1) := by decide +kernel
theorem dX9_countServing_43 : decode cX9_countServing 43 = .ok (.ireturn, 1) := by decide +kernel
theorem dX9_servingAt_0 : decode cX9_servingAt 0 = .ok (.iconst 0, 1) := by decide +kernel
theorem dX9_servingAt_1 : decode cX9_servingAt 1 = .ok (.istore_n 2, 1) := by decide +kernel
theorem dX9_servingAt_2 : decode cX9_servingAt 2 = .ok (.iconst 0, 1) := by decide +kernel
theorem dX9_servingAt_3 : decode cX9_servingAt 3 = .ok (.istore_n 3, 1) := by decide +kernel
theorem dX9_servingAt_4 : decode cX9_servingAt 4 = .ok (.iload_n 3, 1) := by decide +kernel
theorem dX9_servingAt_5 : decode cX9_servingAt 5 = .ok (.iconst 3, 1) := by decide +kernel
theorem dX9_servingAt_6 : decode cX9_servingAt 6 = .ok (.if_icmp .ge 31, 3) := by decide +kernel
theorem dX9_servingAt_9 : decode cX9_servingAt 9 = .ok (.aload_n 0, 1) := by decide +kernel
theorem dX9_servingAt_10 : decode cX9_servingAt 10 = .ok (.getfield 31, 3) := by decide +kernel
theorem dX9_servingAt_13 : decode cX9_servingAt 13 = .ok (.iload_n 3, 1) := by decide +kernel
theorem dX9_servingAt_14 : decode cX9_servingAt 14 = .ok (.aaload, 1) := by decide +kernel
theorem dX9_servingAt_15 : decode cX9_servingAt 15 = .ok (.getfield 87, 3) := by decide +kernel
theorem dX9_servingAt_18 : decode cX9_servingAt 18 = .ok (.ifCond .eq 13, 3) := by decide +kernel
theorem dX9_servingAt_21 : decode cX9_servingAt 21 = .ok (.iload_n 2, 1) := by decide +kernel
theorem dX9_servingAt_22 : decode cX9_servingAt 22 = .ok (.iinc 2 1, 3) := by decide +kernel
theorem dX9_servingAt_25 : decode cX9_servingAt 25 = .ok (.iload_n 1, 1) := by decide +kernel
theorem dX9_servingAt_26 : decode cX9_servingAt 26 = .ok (.if_icmp .ne 5, 3) := by decide +kernel
theorem dX9_servingAt_29 : decode cX9_servingAt 29 = .ok (.iload_n 3, 1) := by decide +kernel
theorem dX9_servingAt_30 : decode cX9_servingAt 30 = .ok (.ireturn, 1) := by decide +kernel
theorem dX9_servingAt_31 : decode cX9_servingAt 31 = .ok (.iinc 3 1, 3) := by decide +kernel
theorem dX9_servingAt_34 : decode cX9_servingAt 34 = .ok (.goto (-30), 3) := by decide +kernel
theorem dX9_servingAt_37 : decode cX9_servingAt 37 = .ok (.iconst 0, 1) := by decide +kernel
theorem dX9_servingAt_38 : decode cX9_servingAt 38 = .ok (.ireturn, 1) := by decide +kernel
theorem dX9_putHead_0 : decode cX9_putHead 0 = .ok (.aload_n 0, 1) := by decide +kernel
theorem dX9_putHead_1 : decode cX9_putHead 1 = .ok (.getfield 10, 3) := by decide +kernel
theorem dX9_putHead_4 : decode cX9_putHead 4 = .ok (.aload_n 0, 1) := by decide +kernel
theorem dX9_putHead_5 : decode cX9_putHead 5 = .ok (.getfield 56, 3) := by decide +kernel
theorem dX9_putHead_8 : decode cX9_putHead 8 = .ok (.bipush 71, 2) := by decide +kernel
theorem dX9_putHead_10 : decode cX9_putHead 10 = .ok (.bastore, 1) := by decide +kernel
theorem dX9_putHead_11 : decode cX9_putHead 11 = .ok (.aload_n 0, 1) := by decide +kernel
theorem dX9_putHead_12 : decode cX9_putHead 12 = .ok (.getfield 10, 3) := by decide +kernel
theorem dX9_putHead_15 : decode cX9_putHead 15 = .ok (.aload_n 0, 1) := by decide +kernel
theorem dX9_putHead_16 : decode cX9_putHead 16 = .ok (.getfield 56, 3) := by decide +kernel
theorem dX9_putHead_19 : decode cX9_putHead 19 = .ok (.iconst 1, 1) := by decide +kernel
theorem dX9_putHead_20 : decode cX9_putHead 20 = .ok (.iadd, 1) := by decide +kernel
theorem dX9_putHead_21 : decode cX9_putHead 21 = .ok (.iload_n 2, 1) := by decide +kernel
theorem dX9_putHead_22 : decode cX9_putHead 22 = .ok (.ifCond .eq 9, 3) := by decide +kernel
theorem dX9_putHead_25 : decode cX9_putHead 25 = .ok (.sipush 16384, 3) := by decide +kernel
theorem dX9_putHead_28 : decode cX9_putHead 28 = .ok (.goto 4, 3) := by decide +kernel
theorem dX9_putHead_31 : decode cX9_putHead 31 = .ok (.iconst 0, 1) := by decide +kernel
theorem dX9_putHead_32 : decode cX9_putHead 32 = .ok (.iload_n 1, 1) := by decide +kernel
theorem dX9_putHead_33 : decode cX9_putHead 33 = .ok (.ior, 1) := by decide +kernel
theorem dX9_putHead_34 : decode cX9_putHead 34 = .ok (.invokestatic 91, 3) := by decide +kernel
theorem dX9_putHead_37 : decode cX9_putHead 37 = .ok (.aload_n 0, 1) := by decide +kernel
theorem dX9_putHead_38 : decode cX9_putHead 38 = .ok (.getfield 10, 3) := by decide +kernel
theorem dX9_putHead_41 : decode cX9_putHead 41 = .ok (.aload_n 0, 1) := by decide +kernel
theorem dX9_putHead_42 : decode cX9_putHead 42 = .ok (.getfield 56, 3) := by decide +kernel
theorem dX9_putHead_45 : decode cX9_putHead 45 = .ok (.iconst 3, 1) := by decide +kernel
theorem dX9_putHead_46 : decode cX9_putHead 46 = .ok (.iadd, 1) := by decide +kernel
theorem dX9_putHead_47 : decode cX9_putHead 47 = .ok (.iload_n 3, 1) := by decide +kernel
theorem dX9_putHead_48 : decode cX9_putHead 48 = .ok (.iload 4, 2) := by decide +kernel
theorem dX9_putHead_50 : decode cX9_putHead 50 = .ok (.ior, 1) := by decide +kernel
theorem dX9_putHead_51 : decode cX9_putHead 51 = .ok (.i2b, 1) := by decide +kernel
theorem dX9_putHead_52 : decode cX9_putHead 52 = .ok (.bastore, 1) := by decide +kernel
theorem dX9_putHead_53 : decode cX9_putHead 53 = .ok (.return_, 1) := by decide +kernel
theorem dX9_nextCounter_0 : decode cX9_nextCounter 0 = .ok (.iload_n 2, 1) := by decide +kernel
theorem dX9_nextCounter_1 : decode cX9_nextCounter 1 = .ok (.ifCond .eq 20, 3) := by decide +kernel
theorem dX9_nextCounter_4 : decode cX9_nextCounter 4 = .ok (.aload_n 0, 1) := by decide +kernel
theorem dX9_nextCounter_5 : decode cX9_nextCounter 5 = .ok (.getfield 19, 3) := by decide +kernel
theorem dX9_nextCounter_8 : decode cX9_nextCounter 8 = .ok (.iload_n 1, 1) := by decide +kernel
theorem dX9_nextCounter_9 : decode cX9_nextCounter 9 = .ok (.aload_n 0, 1) := by decide +kernel
theorem dX9_nextCounter_10 : decode cX9_nextCounter 10 = .ok (.getfield 19, 3) := by decide +kernel
theorem dX9_nextCounter_13 : decode cX9_nextCounter 13 = .ok (.iload_n 1, 1) := by decide +kernel
theorem dX9_nextCounter_14 : decode cX9_nextCounter 14 = .ok (.iaload, 1) := by decide +kernel
theorem dX9_nextCounter_15 : decode cX9_nextCounter 15 = .ok (.iconst 1, 1) := by decide +kernel
theorem dX9_nextCounter_16 : decode cX9_nextCounter 16 = .ok (.iadd, 1) := by decide +kernel
theorem dX9_nextCounter_17 : decode cX9_nextCounter 17 = .ok (.bipush 15, 2) := by decide +kernel
theorem dX9_nextCounter_19 : decode cX9_nextCounter 19 = .ok (.iand, 1) := by decide +kernel
theorem dX9_nextCounter_20 : decode cX9_nextCounter 20 = .ok (.iastore, 1) := by decide +kernel
theorem dX9_nextCounter_21 : decode cX9_nextCounter 21 = .ok (.aload_n 0, 1) := by decide +kernel
theorem dX9_nextCounter_22 : decode cX9_nextCounter 22 = .ok (.getfield 19, 3) := by decide +kernel
theorem dX9_nextCounter_25 : decode cX9_nextCounter 25 = .ok (.iload_n 1, 1) := by decide +kernel
theorem dX9_nextCounter_26 : decode cX9_nextCounter 26 = .ok (.iaload, 1) := by decide +kernel
theorem dX9_nextCounter_27 : decode cX9_nextCounter 27 = .ok (.ireturn, 1) := by decide +kernel
theorem dX9_makeList_0 : decode cX9_makeList 0 = .ok (.aload_n 0, 1) := by decide +kernel
theorem dX9_makeList_1 : decode cX9_makeList 1 = .ok (.iconst 0, 1) := by decide +kernel
theorem dX9_makeList_2 : decode cX9_makeList 2 = .ok (.iconst 1, 1) := by decide +kernel
theorem dX9_makeList_3 : decode cX9_makeList 3 = .ok (.bipush 16, 2) := by decide +kernel
theorem dX9_makeList_5 : decode cX9_makeList 5 = .ok (.aload_n 0, 1) := by decide +kernel
theorem dX9_makeList_6 : decode cX9_makeList 6 = .ok (.iconst 0, 1) := by decide +kernel
theorem dX9_makeList_7 : decode cX9_makeList 7 = .ok (.iconst 1, 1) := by decide +kernel
theorem dX9_makeList_8 : decode cX9_makeList 8 = .ok (.invokevirtual 97, 3) := by decide +kernel
theorem dX9_makeList_11 : decode cX9_makeList 11 = .ok (.invokevirtual 101, 3) := by decide +kernel
theorem dX9_makeList_14 : decode cX9_makeList 14 = .ok (.aload_n 0, 1) := by decide +kernel
theorem dX9_makeList_15 : decode cX9_makeList 15 = .ok (.getfield 56, 3) := by decide +kernel
theorem dX9_makeList_18 : decode cX9_makeList 18 = .ok (.iconst 5, 1) := by decide +kernel
theorem dX9_makeList_19 : decode cX9_makeList 19 = .ok (.iadd, 1) := by decide +kernel
theorem dX9_makeList_20 : decode cX9_makeList 20 = .ok (.istore_n 2, 1) := by decide +kernel
theorem dX9_makeList_21 : decode cX9_makeList 21 = .ok (.aload_n 0, 1) := by decide +kernel
theorem dX9_makeList_22 : decode cX9_makeList 22 = .ok (.getfield 10, 3) := by decide +kernel
theorem dX9_makeList_25 : decode cX9_makeList 25 = .ok (.aload_n 0, 1) := by decide +kernel
theorem dX9_makeList_26 : decode cX9_makeList 26 = .ok (.getfield 56, 3) := by decide +kernel
theorem dX9_makeList_29 : decode cX9_makeList 29 = .ok (.iconst 4, 1) := by decide +kernel
theorem dX9_makeList_30 : decode cX9_makeList 30 = .ok (.iadd, 1) := by decide +kernel
theorem dX9_makeList_31 : decode cX9_makeList 31 = .ok (.iconst 0, 1) := by decide +kernel
theorem dX9_makeList_32 : decode cX9_makeList 32 = .ok (.bastore, 1) := by decide +kernel
theorem dX9_makeList_33 : decode cX9_makeList 33 = .ok (.aload_n 0, 1) := by decide +kernel
theorem dX9_makeList_34 : decode cX9_makeList 34 = .ok (.getfield 10, 3) := by decide +kernel
theorem dX9_makeList_37 : decode cX9_makeList 37 = .ok (.iload_n 2, 1) := by decide +kernel
theorem dX9_makeList_38 : decode cX9_makeList 38 = .ok (.sipush 176, 3) := by decide +kernel
theorem dX9_makeList_41 : decode cX9_makeList 41 = .ok (.invokestatic 91, 3) := by decide +kernel
theorem dX9_makeList_44 : decode cX9_makeList 44 = .ok (.aload_n 0, 1) := by decide +kernel
theorem dX9_makeList_45 : decode cX9_makeList 45 = .ok (.getfield 10, 3) := by decide +kernel
theorem dX9_makeList_48 : decode cX9_makeList 48 = .ok (.iload_n 2, 1) := by decide +kernel
theorem dX9_makeList_49 : decode cX9_makeList 49 = .ok (.iconst 2, 1) := by decide +kernel
theorem dX9_makeList_50 : decode cX9_makeList 50 = .ok (.iadd, 1) := by decide +kernel
theorem dX9_makeList_51 : decode cX9_makeList 51 = .ok (.bipush 9, 2) := by decide +kernel
theorem dX9_makeList_53 : decode cX9_makeList 53 = .ok (.iconst 4, 1) := by decide +kernel
theorem dX9_makeList_54 : decode cX9_makeList 54 = .ok (.iload_n 1, 1) := by decide +kernel
theorem dX9_makeList_55 : decode cX9_makeList 55 = .ok (.imul, 1) := by decide +kernel
theorem dX9_makeList_56 : decode cX9_makeList 56 = .ok (.iadd, 1) := by decide +kernel
theorem dX9_makeList_57 : decode cX9_makeList 57 = .ok (.i2b, 1) := by decide +kernel
theorem dX9_makeList_58 : decode cX9_makeList 58 = .ok (.bastore, 1) := by decide +kernel
theorem dX9_makeList_59 : decode cX9_makeList 59 = .ok (.aload_n 0, 1) := by decide +kernel
theorem dX9_makeList_60 : decode cX9_makeList 60 = .ok (.getfield 10, 3) := by decide +kernel
theorem dX9_makeList_63 : decode cX9_makeList 63 = .ok (.iload_n 2, 1) := by decide +kernel
theorem dX9_makeList_64 : decode cX9_makeList 64 = .ok (.iconst 3, 1) := by decide +kernel
theorem dX9_makeList_65 : decode cX9_makeList 65 = .ok (.iadd, 1) := by decide +kernel
theorem dX9_makeList_66 : decode cX9_makeList 66 = .ok (.iconst 1, 1) := by decide +kernel
theorem dX9_makeList_67 : decode cX9_makeList 67 = .ok (.invokestatic 91, 3) := by decide +kernel
theorem dX9_makeList_70 : decode cX9_makeList 70 = .ok (.aload_n 0, 1) := by decide +kernel
theorem dX9_makeList_71 : decode cX9_makeList 71 = .ok (.getfield 10, 3) := by decide +kernel
theorem dX9_makeList_74 : decode cX9_makeList 74 = .ok (.iload_n 2, 1) := by decide +kernel
theorem dX9_makeList_75 : decode cX9_makeList 75 = .ok (.iconst 5, 1) := by decide +kernel
theorem dX9_makeList_76 : decode cX9_makeList 76 = .ok (.iadd, 1) := by decide +kernel
theorem dX9_makeList_77 : decode cX9_makeList 77 = .ok (.sipush 193, 3) := by decide +kernel
theorem dX9_makeList_80 : decode cX9_makeList 80 = .ok (.iconst 2, 1) := by decide +kernel
theorem dX9_makeList_81 : decode cX9_makeList 81 = .ok (.aload_n 0, 1) := by decide +kernel
theorem dX9_makeList_82 : decode cX9_makeList 82 = .ok (.getfield 50, 3) := by decide +kernel
theorem dX9_makeList_85 : decode cX9_makeList 85 = .ok (.imul, 1) := by decide +kernel
theorem dX9_makeList_86 : decode cX9_makeList 86 = .ok (.iadd, 1) := by decide +kernel
theorem dX9_makeList_87 : decode cX9_makeList 87 = .ok (.i2b, 1) := by decide +kernel
theorem dX9_makeList_88 : decode cX9_makeList 88 = .ok (.bastore, 1) := by decide +kernel
theorem dX9_makeList_89 : decode cX9_makeList 89 = .ok (.aload_n 0, 1) := by decide +kernel
theorem dX9_makeList_90 : decode cX9_makeList 90 = .ok (.getfield 10, 3) := by decide +kernel
theorem dX9_makeList_93 : decode cX9_makeList 93 = .ok (.iload_n 2, 1) := by decide +kernel
theorem dX9_makeList_94 : decode cX9_makeList 94 = .ok (.bipush 6, 2) := by decide +kernel
theorem dX9_makeList_96 : decode cX9_makeList 96 = .ok (.iadd, 1) := by decide +kernel
theorem dX9_makeList_97 : decode cX9_makeList 97 = .ok (.iconst 0, 1) := by decide +kernel
theorem dX9_makeList_98 : decode cX9_makeList 98 = .ok (.invokestatic 91, 3) := by decide +kernel
theorem dX9_makeList_101 : decode cX9_makeList 101 = .ok (.iload_n 2, 1) := by decide +kernel
theorem dX9_makeList_102 : decode cX9_makeList 102 = .ok (.bipush 8, 2) := by decide +kernel
theorem dX9_makeList_104 : decode cX9_makeList 104 = .ok (.iadd, 1) := by decide +kernel
theorem dX9_makeList_105 : decode cX9_makeList 105 = .ok (.istore_n 3, 1) := by decide +kernel
theorem dX9_makeList_106 : decode cX9_makeList 106 = .ok (.iconst 0, 1) := by decide +kernel
theorem dX9_makeList_107 : decode cX9_makeList 107 = .ok (.istore 4, 2) := by decide +kernel
theorem dX9_makeList_109 : decode cX9_makeList 109 = .ok (.iload 4, 2) := by decide +kernel
theorem dX9_makeList_111 : decode cX9_makeList 111 = .ok (.iconst 3, 1) := by decide +kernel
theorem dX9_makeList_112 : decode cX9_makeList 112 = .ok (.if_icmp .ge 58, 3) := by decide +kernel
theorem dX9_makeList_115 : decode cX9_makeList 115 = .ok (.aload_n 0, 1) := by decide +kernel
theorem dX9_makeList_116 : decode cX9_makeList 116 = .ok (.getfield 31, 3) := by decide +kernel
theorem dX9_makeList_119 : decode cX9_makeList 119 = .ok (.iload 4, 2) := by decide +kernel
theorem dX9_makeList_121 : decode cX9_makeList 121 = .ok (.aaload, 1) := by decide +kernel
theorem dX9_makeList_122 : decode cX9_makeList 122 = .ok (.getfield 87, 3) := by decide +kernel
theorem dX9_makeList_125 : decode cX9_makeList 125 = .ok (.ifCond .ne 6, 3) := by decide +kernel
theorem dX9_makeList_128 : decode cX9_makeList 128 = .ok (.goto 36, 3) := by decide +kernel
theorem dX9_makeList_131 : decode cX9_makeList 131 = .ok (.aload_n 0, 1) := by decide +kernel
theorem dX9_makeList_132 : decode cX9_makeList 132 = .ok (.getfield 10, 3) := by decide +kernel
theorem dX9_makeList_135 : decode cX9_makeList 135 = .ok (.iload_n 3, 1) := by decide +kernel
theorem dX9_makeList_136 : decode cX9_makeList 136 = .ok (.iload 4, 2) := by decide +kernel
theorem dX9_makeList_138 : decode cX9_makeList 138 = .ok (.iconst 1, 1) := by decide +kernel
theorem dX9_makeList_139 : decode cX9_makeList 139 = .ok (.iadd, 1) := by decide +kernel
theorem dX9_makeList_140 : decode cX9_makeList 140 = .ok (.invokestatic 91, 3) := by decide +kernel
