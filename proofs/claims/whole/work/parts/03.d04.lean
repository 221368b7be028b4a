theorem dX12_take_18 : decode cX12_take 18 = .ok (.ireturn, 1) := by decide +kernel
theorem dX12_hold_0 : decode cX12_hold 0 = .ok (.iload_n 1, 1) := by decide +kernel
theorem dX12_hold_1 : decode cX12_hold 1 = .ok (.invokestatic 308, 3) := by decide +kernel
theorem dX12_hold_4 : decode cX12_hold 4 = .ok (.ifCond .ne 6, 3) := by decide +kernel
theorem dX12_hold_7 : decode cX12_hold 7 = .ok (.bipush (-2), 2) := by decide +kernel
theorem dX12_hold_9 : decode cX12_hold 9 = .ok (.ireturn, 1) := by decide +kernel
theorem dX12_hold_10 : decode cX12_hold 10 = .ok (.aload_n 0, 1) := by decide +kernel
theorem dX12_hold_11 : decode cX12_hold 11 = .ok (.getfield 64, 3) := by decide +kernel
theorem dX12_hold_14 : decode cX12_hold 14 = .ok (.iload_n 1, 1) := by decide +kernel
theorem dX12_hold_15 : decode cX12_hold 15 = .ok (.baload, 1) := by decide +kernel
theorem dX12_hold_16 : decode cX12_hold 16 = .ok (.ifCond .eq 7, 3) := by decide +kernel
theorem dX12_hold_19 : decode cX12_hold 19 = .ok (.iconst 1, 1) := by decide +kernel
theorem dX12_hold_20 : decode cX12_hold 20 = .ok (.goto 4, 3) := by decide +kernel
theorem dX12_hold_23 : decode cX12_hold 23 = .ok (.iconst 0, 1) := by decide +kernel
theorem dX12_hold_24 : decode cX12_hold 24 = .ok (.istore_n 3, 1) := by decide +kernel
theorem dX12_hold_25 : decode cX12_hold 25 = .ok (.aload_n 0, 1) := by decide +kernel
theorem dX12_hold_26 : decode cX12_hold 26 = .ok (.getfield 64, 3) := by decide +kernel
theorem dX12_hold_29 : decode cX12_hold 29 = .ok (.iload_n 1, 1) := by decide +kernel
theorem dX12_hold_30 : decode cX12_hold 30 = .ok (.iload_n 2, 1) := by decide +kernel
theorem dX12_hold_31 : decode cX12_hold 31 = .ok (.bastore, 1) := by decide +kernel
theorem dX12_hold_32 : decode cX12_hold 32 = .ok (.iload_n 3, 1) := by decide +kernel
theorem dX12_hold_33 : decode cX12_hold 33 = .ok (.ireturn, 1) := by decide +kernel
theorem dX12_overrun_0 : decode cX12_overrun 0 = .ok (.iload_n 1, 1) := by decide +kernel
theorem dX12_overrun_1 : decode cX12_overrun 1 = .ok (.invokestatic 308, 3) := by decide +kernel
theorem dX12_overrun_4 : decode cX12_overrun 4 = .ok (.ifCond .eq 25, 3) := by decide +kernel
theorem dX12_overrun_7 : decode cX12_overrun 7 = .ok (.iload_n 2, 1) := by decide +kernel
theorem dX12_overrun_8 : decode cX12_overrun 8 = .ok (.i2l, 1) := by decide +kernel
theorem dX12_overrun_9 : decode cX12_overrun 9 = .ok (.lconst 1, 1) := by decide +kernel
theorem dX12_overrun_10 : decode cX12_overrun 10 = .ok (.ldc2_w 291, 3) := by decide +kernel
theorem dX12_overrun_13 : decode cX12_overrun 13 = .ok (.invokestatic 287, 3) := by decide +kernel
theorem dX12_overrun_16 : decode cX12_overrun 16 = .ok (.ifCond .eq 13, 3) := by decide +kernel
theorem dX12_overrun_19 : decode cX12_overrun 19 = .ok (.aload_n 0, 1) := by decide +kernel
theorem dX12_overrun_20 : decode cX12_overrun 20 = .ok (.getfield 58, 3) := by decide +kernel
theorem dX12_overrun_23 : decode cX12_overrun 23 = .ok (.iload_n 1, 1) := by decide +kernel
theorem dX12_overrun_24 : decode cX12_overrun 24 = .ok (.iaload, 1) := by decide +kernel
theorem dX12_overrun_25 : decode cX12_overrun 25 = .ok (.iconst (-1), 1) := by decide +kernel
theorem dX12_overrun_26 : decode cX12_overrun 26 = .ok (.if_icmp .ne 6, 3) := by decide +kernel
theorem dX12_overrun_29 : decode cX12_overrun 29 = .ok (.bipush (-2), 2) := by decide +kernel
theorem dX12_overrun_31 : decode cX12_overrun 31 = .ok (.ireturn, 1) := by decide +kernel
theorem dX12_overrun_32 : decode cX12_overrun 32 = .ok (.bipush 60, 2) := by decide +kernel
theorem dX12_overrun_34 : decode cX12_overrun 34 = .ok (.iload_n 1, 1) := by decide +kernel
theorem dX12_overrun_35 : decode cX12_overrun 35 = .ok (.imul, 1) := by decide +kernel
theorem dX12_overrun_36 : decode cX12_overrun 36 = .ok (.aload_n 0, 1) := by decide +kernel
theorem dX12_overrun_37 : decode cX12_overrun 37 = .ok (.getfield 58, 3) := by decide +kernel
theorem dX12_overrun_40 : decode cX12_overrun 40 = .ok (.iload_n 1, 1) := by decide +kernel
theorem dX12_overrun_41 : decode cX12_overrun 41 = .ok (.iaload, 1) := by decide +kernel
theorem dX12_overrun_42 : decode cX12_overrun 42 = .ok (.iadd, 1) := by decide +kernel
theorem dX12_overrun_43 : decode cX12_overrun 43 = .ok (.istore_n 3, 1) := by decide +kernel
theorem dX12_overrun_44 : decode cX12_overrun 44 = .ok (.aload_n 0, 1) := by decide +kernel
theorem dX12_overrun_45 : decode cX12_overrun 45 = .ok (.getfield 46, 3) := by decide +kernel
theorem dX12_overrun_48 : decode cX12_overrun 48 = .ok (.iload_n 3, 1) := by decide +kernel
theorem dX12_overrun_49 : decode cX12_overrun 49 = .ok (.iaload, 1) := by decide +kernel
theorem dX12_overrun_50 : decode cX12_overrun 50 = .ok (.iload_n 2, 1) := by decide +kernel
theorem dX12_overrun_51 : decode cX12_overrun 51 = .ok (.iadd, 1) := by decide +kernel
theorem dX12_overrun_52 : decode cX12_overrun 52 = .ok (.sipush 2000, 3) := by decide +kernel
theorem dX12_overrun_55 : decode cX12_overrun 55 = .ok (.if_icmp .le 6, 3) := by decide +kernel
theorem dX12_overrun_58 : decode cX12_overrun 58 = .ok (.bipush (-2), 2) := by decide +kernel
theorem dX12_overrun_60 : decode cX12_overrun 60 = .ok (.ireturn, 1) := by decide +kernel
theorem dX12_overrun_61 : decode cX12_overrun 61 = .ok (.aload_n 0, 1) := by decide +kernel
theorem dX12_overrun_62 : decode cX12_overrun 62 = .ok (.getfield 46, 3) := by decide +kernel
theorem dX12_overrun_65 : decode cX12_overrun 65 = .ok (.iload_n 3, 1) := by decide +kernel
theorem dX12_overrun_66 : decode cX12_overrun 66 = .ok (.dup2, 1) := by decide +kernel
theorem dX12_overrun_67 : decode cX12_overrun 67 = .ok (.iaload, 1) := by decide +kernel
theorem dX12_overrun_68 : decode cX12_overrun 68 = .ok (.iload_n 2, 1) := by decide +kernel
theorem dX12_overrun_69 : decode cX12_overrun 69 = .ok (.iadd, 1) := by decide +kernel
theorem dX12_overrun_70 : decode cX12_overrun 70 = .ok (.iastore, 1) := by decide +kernel
theorem dX12_overrun_71 : decode cX12_overrun 71 = .ok (.aload_n 0, 1) := by decide +kernel
theorem dX12_overrun_72 : decode cX12_overrun 72 = .ok (.getfield 46, 3) := by decide +kernel
theorem dX12_overrun_75 : decode cX12_overrun 75 = .ok (.iload_n 3, 1) := by decide +kernel
theorem dX12_overrun_76 : decode cX12_overrun 76 = .ok (.iaload, 1) := by decide +kernel
theorem dX12_overrun_77 : decode cX12_overrun 77 = .ok (.ireturn, 1) := by decide +kernel
theorem dX12_fail_0 : decode cX12_fail 0 = .ok (.iload_n 1, 1) := by decide +kernel
theorem dX12_fail_1 : decode cX12_fail 1 = .ok (.invokestatic 308, 3) := by decide +kernel
theorem dX12_fail_4 : decode cX12_fail 4 = .ok (.ifCond .eq 25, 3) := by decide +kernel
theorem dX12_fail_7 : decode cX12_fail 7 = .ok (.iload_n 2, 1) := by decide +kernel
theorem dX12_fail_8 : decode cX12_fail 8 = .ok (.i2l, 1) := by decide +kernel
theorem dX12_fail_9 : decode cX12_fail 9 = .ok (.lconst 0, 1) := by decide +kernel
theorem dX12_fail_10 : decode cX12_fail 10 = .ok (.lconst 1, 1) := by decide +kernel
theorem dX12_fail_11 : decode cX12_fail 11 = .ok (.invokestatic 287, 3) := by decide +kernel
theorem dX12_fail_14 : decode cX12_fail 14 = .ok (.ifCond .eq 15, 3) := by decide +kernel
theorem dX12_fail_17 : decode cX12_fail 17 = .ok (.iload_n 3, 1) := by decide +kernel
theorem dX12_fail_18 : decode cX12_fail 18 = .ok (.i2l, 1) := by decide +kernel
theorem dX12_fail_19 : decode cX12_fail 19 = .ok (.lconst 1, 1) := by decide +kernel
theorem dX12_fail_20 : decode cX12_fail 20 = .ok (.ldc2_w 291, 3) := by decide +kernel
theorem dX12_fail_23 : decode cX12_fail 23 = .ok (.invokestatic 287, 3) := by decide +kernel
theorem dX12_fail_26 : decode cX12_fail 26 = .ok (.ifCond .ne 6, 3) := by decide +kernel
theorem dX12_fail_29 : decode cX12_fail 29 = .ok (.bipush (-2), 2) := by decide +kernel
theorem dX12_fail_31 : decode cX12_fail 31 = .ok (.ireturn, 1) := by decide +kernel
theorem dX12_fail_32 : decode cX12_fail 32 = .ok (.aload_n 0, 1) := by decide +kernel
theorem dX12_fail_33 : decode cX12_fail 33 = .ok (.getfield 70, 3) := by decide +kernel
theorem dX12_fail_36 : decode cX12_fail 36 = .ok (.iconst 2, 1) := by decide +kernel
theorem dX12_fail_37 : decode cX12_fail 37 = .ok (.iload_n 1, 1) := by decide +kernel
theorem dX12_fail_38 : decode cX12_fail 38 = .ok (.imul, 1) := by decide +kernel
theorem dX12_fail_39 : decode cX12_fail 39 = .ok (.iload_n 2, 1) := by decide +kernel
theorem dX12_fail_40 : decode cX12_fail 40 = .ok (.iadd, 1) := by decide +kernel
theorem dX12_fail_41 : decode cX12_fail 41 = .ok (.aload_n 0, 1) := by decide +kernel
theorem dX12_fail_42 : decode cX12_fail 42 = .ok (.getfield 314, 3) := by decide +kernel
theorem dX12_fail_45 : decode cX12_fail 45 = .ok (.iastore, 1) := by decide +kernel
theorem dX12_fail_46 : decode cX12_fail 46 = .ok (.aload_n 0, 1) := by decide +kernel
theorem dX12_fail_47 : decode cX12_fail 47 = .ok (.getfield 73, 3) := by decide +kernel
theorem dX12_fail_50 : decode cX12_fail 50 = .ok (.iconst 2, 1) := by decide +kernel
theorem dX12_fail_51 : decode cX12_fail 51 = .ok (.iload_n 1, 1) := by decide +kernel
theorem dX12_fail_52 : decode cX12_fail 52 = .ok (.imul, 1) := by decide +kernel
theorem dX12_fail_53 : decode cX12_fail 53 = .ok (.iload_n 2, 1) := by decide +kernel
theorem dX12_fail_54 : decode cX12_fail 54 = .ok (.iadd, 1) := by decide +kernel
theorem dX12_fail_55 : decode cX12_fail 55 = .ok (.aload_n 0, 1) := by decide +kernel
theorem dX12_fail_56 : decode cX12_fail 56 = .ok (.getfield 314, 3) := by decide +kernel
theorem dX12_fail_59 : decode cX12_fail 59 = .ok (.iload_n 3, 1) := by decide +kernel
theorem dX12_fail_60 : decode cX12_fail 60 = .ok (.iadd, 1) := by decide +kernel
theorem dX12_fail_61 : decode cX12_fail 61 = .ok (.iastore, 1) := by decide +kernel
theorem dX12_fail_62 : decode cX12_fail 62 = .ok (.iconst 1, 1) := by decide +kernel
theorem dX12_fail_63 : decode cX12_fail 63 = .ok (.ireturn, 1) := by decide +kernel
theorem dX12_planned_0 : decode cX12_planned 0 = .ok (.iconst 0, 1) := by decide +kernel
theorem dX12_planned_1 : decode cX12_planned 1 = .ok (.istore_n 3, 1) := by decide +kernel
theorem dX12_planned_2 : decode cX12_planned 2 = .ok (.iload_n 3, 1) := by decide +kernel
theorem dX12_planned_3 : decode cX12_planned 3 = .ok (.aload_n 0, 1) := by decide +kernel
theorem dX12_planned_4 : decode cX12_planned 4 = .ok (.getfield 34, 3) := by decide +kernel
theorem dX12_planned_7 : decode cX12_planned 7 = .ok (.iload_n 1, 1) := by decide +kernel
theorem dX12_planned_8 : decode cX12_planned 8 = .ok (.iaload, 1) := by decide +kernel
theorem dX12_planned_9 : decode cX12_planned 9 = .ok (.if_icmp .ge 45, 3) := by decide +kernel
theorem dX12_planned_12 : decode cX12_planned 12 = .ok (.bipush 60, 2) := by decide +kernel
theorem dX12_planned_14 : decode cX12_planned 14 = .ok (.iload_n 1, 1) := by decide +kernel
theorem dX12_planned_15 : decode cX12_planned 15 = .ok (.imul, 1) := by decide +kernel
theorem dX12_planned_16 : decode cX12_planned 16 = .ok (.iload_n 3, 1) := by decide +kernel
theorem dX12_planned_17 : decode cX12_planned 17 = .ok (.iadd, 1) := by decide +kernel
theorem dX12_planned_18 : decode cX12_planned 18 = .ok (.istore 4, 2) := by decide +kernel
theorem dX12_planned_20 : decode cX12_planned 20 = .ok (.aload_n 0, 1) := by decide +kernel
theorem dX12_planned_21 : decode cX12_planned 21 = .ok (.getfield 49, 3) := by decide +kernel
theorem dX12_planned_24 : decode cX12_planned 24 = .ok (.iload 4, 2) := by decide +kernel
theorem dX12_planned_26 : decode cX12_planned 26 = .ok (.iaload, 1) := by decide +kernel
theorem dX12_planned_27 : decode cX12_planned 27 = .ok (.ifCond .ne 21, 3) := by decide +kernel
theorem dX12_planned_30 : decode cX12_planned 30 = .ok (.iload_n 2, 1) := by decide +kernel
theorem dX12_planned_31 : decode cX12_planned 31 = .ok (.iconst (-1), 1) := by decide +kernel
theorem dX12_planned_32 : decode cX12_planned 32 = .ok (.if_icmp .eq 14, 3) := by decide +kernel
theorem dX12_planned_35 : decode cX12_planned 35 = .ok (.aload_n 0, 1) := by decide +kernel
theorem dX12_planned_36 : decode cX12_planned 36 = .ok (.getfield 37, 3) := by decide +kernel
theorem dX12_planned_39 : decode cX12_planned 39 = .ok (.iload 4, 2) := by decide +kernel
theorem dX12_planned_41 : decode cX12_planned 41 = .ok (.iaload, 1) := by decide +kernel
theorem dX12_planned_42 : decode cX12_planned 42 = .ok (.iload_n 2, 1) := by decide +kernel
theorem dX12_planned_43 : decode cX12_planned 43 = .ok (.if_icmp .ne 5, 3) := by decide +kernel
theorem dX12_planned_46 : decode cX12_planned 46 = .ok (.iload_n 3, 1) := by decide +kernel
theorem dX12_planned_47 : decode cX12_planned 47 = .ok (.ireturn, 1) := by decide +kernel
theorem dX12_planned_48 : decode cX12_planned 48 = .ok (.iinc 3 1, 3) := by decide +kernel
theorem dX12_planned_51 : decode cX12_planned 51 = .ok (.goto (-49), 3) := by decide +kernel
theorem dX12_planned_54 : decode cX12_planned 54 = .ok (.iconst (-1), 1) := by decide +kernel
theorem dX12_planned_55 : decode cX12_planned 55 = .ok (.ireturn, 1) := by decide +kernel
theorem dX12_leaves_0 : decode cX12_leaves 0 = .ok (.aload_n 0, 1) := by decide +kernel
theorem dX12_leaves_1 : decode cX12_leaves 1 = .ok (.getfield 58, 3) := by decide +kernel
theorem dX12_leaves_4 : decode cX12_leaves 4 = .ok (.iload_n 1, 1) := by decide +kernel
theorem dX12_leaves_5 : decode cX12_leaves 5 = .ok (.iaload, 1) := by decide +kernel
theorem dX12_leaves_6 : decode cX12_leaves 6 = .ok (.iconst (-1), 1) := by decide +kernel
theorem dX12_leaves_7 : decode cX12_leaves 7 = .ok (.if_icmp .eq 20, 3) := by decide +kernel
theorem dX12_leaves_10 : decode cX12_leaves 10 = .ok (.aload_n 0, 1) := by decide +kernel
theorem dX12_leaves_11 : decode cX12_leaves 11 = .ok (.getfield 49, 3) := by decide +kernel
theorem dX12_leaves_14 : decode cX12_leaves 14 = .ok (.bipush 60, 2) := by decide +kernel
theorem dX12_leaves_16 : decode cX12_leaves 16 = .ok (.iload_n 1, 1) := by decide +kernel
theorem dX12_leaves_17 : decode cX12_leaves 17 = .ok (.imul, 1) := by decide +kernel
theorem dX12_leaves_18 : decode cX12_leaves 18 = .ok (.aload_n 0, 1) := by decide +kernel
theorem dX12_leaves_19 : decode cX12_leaves 19 = .ok (.getfield 58, 3) := by decide +kernel
theorem dX12_leaves_22 : decode cX12_leaves 22 = .ok (.iload_n 1, 1) := by decide +kernel
theorem dX12_leaves_23 : decode cX12_leaves 23 = .ok (.iaload, 1) := by decide +kernel
theorem dX12_leaves_24 : decode cX12_leaves 24 = .ok (.iadd, 1) := by decide +kernel
theorem dX12_leaves_25 : decode cX12_leaves 25 = .ok (.iload_n 2, 1) := by decide +kernel
theorem dX12_leaves_26 : decode cX12_leaves 26 = .ok (.iastore, 1) := by decide +kernel
theorem dX12_leaves_27 : decode cX12_leaves 27 = .ok (.aload_n 0, 1) := by decide +kernel
theorem dX12_leaves_28 : decode cX12_leaves 28 = .ok (.getfield 58, 3) := by decide +kernel
theorem dX12_leaves_31 : decode cX12_leaves 31 = .ok (.iload_n 1, 1) := by decide +kernel
theorem dX12_leaves_32 : decode cX12_leaves 32 = .ok (.iconst (-1), 1) := by decide +kernel
theorem dX12_leaves_33 : decode cX12_leaves 33 = .ok (.iastore, 1) := by decide +kernel
theorem dX12_leaves_34 : decode cX12_leaves 34 = .ok (.return_, 1) := by decide +kernel
theorem dX12_comes_0 : decode cX12_comes 0 = .ok (.aload_n 0, 1) := by decide +kernel
theorem dX12_comes_1 : decode cX12_comes 1 = .ok (.getfield 49, 3) := by decide +kernel
theorem dX12_comes_4 : decode cX12_comes 4 = .ok (.bipush 60, 2) := by decide +kernel
theorem dX12_comes_6 : decode cX12_comes 6 = .ok (.iload_n 1, 1) := by decide +kernel
theorem dX12_comes_7 : decode cX12_comes 7 = .ok (.imul, 1) := by decide +kernel
theorem dX12_comes_8 : decode cX12_comes 8 = .ok (.iload_n 2, 1) := by decide +kernel
theorem dX12_comes_9 : decode cX12_comes 9 = .ok (.iadd, 1) := by decide +kernel
theorem dX12_comes_10 : decode cX12_comes 10 = .ok (.iconst 1, 1) := by decide +kernel
theorem dX12_comes_11 : decode cX12_comes 11 = .ok (.iastore, 1) := by decide +kernel
theorem dX12_comes_12 : decode cX12_comes 12 = .ok (.aload_n 0, 1) := by decide +kernel
theorem dX12_comes_13 : decode cX12_comes 13 = .ok (.getfield 55, 3) := by decide +kernel
theorem dX12_comes_16 : decode cX12_comes 16 = .ok (.bipush 60, 2) := by decide +kernel
theorem dX12_comes_18 : decode cX12_comes 18 = .ok (.iload_n 1, 1) := by decide +kernel
theorem dX12_comes_19 : decode cX12_comes 19 = .ok (.imul, 1) := by decide +kernel
theorem dX12_comes_20 : decode cX12_comes 20 = .ok (.iload_n 2, 1) := by decide +kernel
theorem dX12_comes_21 : decode cX12_comes 21 = .ok (.iadd, 1) := by decide +kernel
theorem dX12_comes_22 : decode cX12_comes 22 = .ok (.iload_n 3, 1) := by decide +kernel
theorem dX12_comes_23 : decode cX12_comes 23 = .ok (.iastore, 1) := by decide +kernel
theorem dX12_comes_24 : decode cX12_comes 24 = .ok (.aload_n 0, 1) := by decide +kernel
theorem dX12_comes_25 : decode cX12_comes 25 = .ok (.getfield 58, 3) := by decide +kernel
theorem dX12_comes_28 : decode cX12_comes 28 = .ok (.iload_n 1, 1) := by decide +kernel
theorem dX12_comes_29 : decode cX12_comes 29 = .ok (.iload_n 2, 1) := by decide +kernel
theorem dX12_comes_30 : decode cX12_comes 30 = .ok (.iastore, 1) := by decide +kernel
theorem dX12_comes_31 : decode cX12_comes 31 = .ok (.aload_n 0, 1) := by decide +kernel
theorem dX12_comes_32 : decode cX12_comes 32 = .ok (.getfield 76, 3) := by decide +kernel
theorem dX12_comes_35 : decode cX12_comes 35 = .ok (.iload_n 1, 1) := by decide +kernel
theorem dX12_comes_36 : decode cX12_comes 36 = .ok (.iconst (-1), 1) := by decide +kernel
theorem dX12_comes_37 : decode cX12_comes 37 = .ok (.iastore, 1) := by decide +kernel
theorem dX12_comes_38 : decode cX12_comes 38 = .ok (.return_, 1) := by decide +kernel
theorem dX12_turns_0 : decode cX12_turns 0 = .ok (.iconst (-1), 1) := by decide +kernel
theorem dX12_turns_1 : decode cX12_turns 1 = .ok (.istore_n 3, 1) := by decide +kernel
theorem dX12_turns_2 : decode cX12_turns 2 = .ok (.iconst 0, 1) := by decide +kernel
theorem dX12_turns_3 : decode cX12_turns 3 = .ok (.istore 4, 2) := by decide +kernel
theorem dX12_turns_5 : decode cX12_turns 5 = .ok (.iload 4, 2) := by decide +kernel
theorem dX12_turns_7 : decode cX12_turns 7 = .ok (.aload_n 0, 1) := by decide +kernel
theorem dX12_turns_8 : decode cX12_turns 8 = .ok (.getfield 34, 3) := by decide +kernel
theorem dX12_turns_11 : decode cX12_turns 11 = .ok (.iload_n 1, 1) := by decide +kernel
theorem dX12_turns_12 : decode cX12_turns 12 = .ok (.iaload, 1) := by decide +kernel
theorem dX12_turns_13 : decode cX12_turns 13 = .ok (.if_icmp .ge 57, 3) := by decide +kernel
theorem dX12_turns_16 : decode cX12_turns 16 = .ok (.bipush 60, 2) := by decide +kernel
theorem dX12_turns_18 : decode cX12_turns 18 = .ok (.iload_n 1, 1) := by decide +kernel
theorem dX12_turns_19 : decode cX12_turns 19 = .ok (.imul, 1) := by decide +kernel
theorem dX12_turns_20 : decode cX12_turns 20 = .ok (.iload 4, 2) := by decide +kernel
theorem dX12_turns_22 : decode cX12_turns 22 = .ok (.iadd, 1) := by decide +kernel
theorem dX12_turns_23 : decode cX12_turns 23 = .ok (.istore 5, 2) := by decide +kernel
theorem dX12_turns_25 : decode cX12_turns 25 = .ok (.aload_n 0, 1) := by decide +kernel
theorem dX12_turns_26 : decode cX12_turns 26 = .ok (.getfield 49, 3) := by decide +kernel
theorem dX12_turns_29 : decode cX12_turns 29 = .ok (.iload 5, 2) := by decide +kernel
theorem dX12_turns_31 : decode cX12_turns 31 = .ok (.iaload, 1) := by decide +kernel
theorem dX12_turns_32 : decode cX12_turns 32 = .ok (.ifCond .ne 30, 3) := by decide +kernel
theorem dX12_turns_35 : decode cX12_turns 35 = .ok (.aload_n 0, 1) := by decide +kernel
theorem dX12_turns_36 : decode cX12_turns 36 = .ok (.getfield 37, 3) := by decide +kernel
theorem dX12_turns_39 : decode cX12_turns 39 = .ok (.iload 5, 2) := by decide +kernel
theorem dX12_turns_41 : decode cX12_turns 41 = .ok (.iaload, 1) := by decide +kernel
theorem dX12_turns_42 : decode cX12_turns 42 = .ok (.iconst 1, 1) := by decide +kernel
theorem dX12_turns_43 : decode cX12_turns 43 = .ok (.if_icmp .ne 19, 3) := by decide +kernel
theorem dX12_turns_46 : decode cX12_turns 46 = .ok (.aload_n 0, 1) := by decide +kernel
theorem dX12_turns_47 : decode cX12_turns 47 = .ok (.getfield 40, 3) := by decide +kernel
theorem dX12_turns_50 : decode cX12_turns 50 = .ok (.iload 5, 2) := by decide +kernel
theorem dX12_turns_52 : decode cX12_turns 52 = .ok (.iaload, 1) := by decide +kernel
theorem dX12_turns_53 : decode cX12_turns 53 = .ok (.iload_n 2, 1) := by decide +kernel
theorem dX12_turns_54 : decode cX12_turns 54 = .ok (.if_icmp .ne 8, 3) := by decide +kernel
theorem dX12_turns_57 : decode cX12_turns 57 = .ok (.iload 4, 2) := by decide +kernel
theorem dX12_turns_59 : decode cX12_turns 59 = .ok (.goto 4, 3) := by decide +kernel
theorem dX12_turns_62 : decode cX12_turns 62 = .ok (.iload_n 3, 1) := by decide +kernel
theorem dX12_turns_63 : decode cX12_turns 63 = .ok (.istore_n 3, 1) := by decide +kernel
theorem dX12_turns_64 : decode cX12_turns 64 = .ok (.iinc 4 1, 3) := by decide +kernel
theorem dX12_turns_67 : decode cX12_turns 67 = .ok (.goto (-62), 3) := by decide +kernel
theorem dX12_turns_70 : decode cX12_turns 70 = .ok (.iload_n 3, 1) := by decide +kernel
theorem dX12_turns_71 : decode cX12_turns 71 = .ok (.iconst (-1), 1) := by decide +kernel
theorem dX12_turns_72 : decode cX12_turns 72 = .ok (.if_icmp .eq 71, 3) := by decide +kernel
theorem dX12_turns_75 : decode cX12_turns 75 = .ok (.aload_n 0, 1) := by decide +kernel
theorem dX12_turns_76 : decode cX12_turns 76 = .ok (.iload_n 1, 1) := by decide +kernel
theorem dX12_turns_77 : decode cX12_turns 77 = .ok (.iconst 3, 1) := by decide +kernel
theorem dX12_turns_78 : decode cX12_turns 78 = .ok (.invokevirtual 323, 3) := by decide +kernel
theorem dX12_turns_81 : decode cX12_turns 81 = .ok (.iconst 0, 1) := by decide +kernel
theorem dX12_turns_82 : decode cX12_turns 82 = .ok (.istore 4, 2) := by decide +kernel
theorem dX12_turns_84 : decode cX12_turns 84 = .ok (.iload 4, 2) := by decide +kernel
theorem dX12_turns_86 : decode cX12_turns 86 = .ok (.iload_n 3, 1) := by decide +kernel
theorem dX12_turns_87 : decode cX12_turns 87 = .ok (.if_icmp .ge 46, 3) := by decide +kernel
theorem dX12_turns_90 : decode cX12_turns 90 = .ok (.bipush 60, 2) := by decide +kernel
theorem dX12_turns_92 : decode cX12_turns 92 = .ok (.iload_n 1, 1) := by decide +kernel
theorem dX12_turns_93 : decode cX12_turns 93 = .ok (.imul, 1) := by decide +kernel
theorem dX12_turns_94 : decode cX12_turns 94 = .ok (.iload 4, 2) := by decide +kernel
theorem dX12_turns_96 : decode cX12_turns 96 = .ok (.iadd, 1) := by decide +kernel
theorem dX12_turns_97 : decode cX12_turns 97 = .ok (.istore 5, 2) := by decide +kernel
theorem dX12_turns_99 : decode cX12_turns 99 = .ok (.aload_n 0, 1) := by decide +kernel
theorem dX12_turns_100 : decode cX12_turns 100 = .ok (.getfield 49, 3) := by decide +kernel
theorem dX12_turns_103 : decode cX12_turns 103 = .ok (.iload 5, 2) := by decide +kernel
theorem dX12_turns_105 : decode cX12_turns 105 = .ok (.aload_n 0, 1) := by decide +kernel
theorem dX12_turns_106 : decode cX12_turns 106 = .ok (.getfield 49, 3) := by decide +kernel
theorem dX12_turns_109 : decode cX12_turns 109 = .ok (.iload 5, 2) := by decide +kernel
theorem dX12_turns_111 : decode cX12_turns 111 = .ok (.iaload, 1) := by decide +kernel
theorem dX12_turns_112 : decode cX12_turns 112 = .ok (.ifCond .ne 7, 3) := by decide +kernel
theorem dX12_turns_115 : decode cX12_turns 115 = .ok (.iconst 4, 1) := by decide +kernel
theorem dX12_turns_116 : decode cX12_turns 116 = .ok (.goto 10, 3) := by decide +kernel
theorem dX12_turns_119 : decode cX12_turns 119 = .ok (.aload_n 0, 1) := by decide +kernel
theorem dX12_turns_120 : decode cX12_turns 120 = .ok (.getfield 49, 3) := by decide +kernel
theorem dX12_turns_123 : decode cX12_turns 123 = .ok (.iload 5, 2) := by decide +kernel
theorem dX12_turns_125 : decode cX12_turns 125 = .ok (.iaload, 1) := by decide +kernel
theorem dX12_turns_126 : decode cX12_turns 126 = .ok (.iastore, 1) := by decide +kernel
theorem dX12_turns_127 : decode cX12_turns 127 = .ok (.iinc 4 1, 3) := by decide +kernel
theorem dX12_turns_130 : decode cX12_turns 130 = .ok (.goto (-46), 3) := by decide +kernel
theorem dX12_turns_133 : decode cX12_turns 133 = .ok (.aload_n 0, 1) := by decide +kernel
theorem dX12_turns_134 : decode cX12_turns 134 = .ok (.iload_n 1, 1) := by decide +kernel
theorem dX12_turns_135 : decode cX12_turns 135 = .ok (.iload_n 3, 1) := by decide +kernel
theorem dX12_turns_136 : decode cX12_turns 136 = .ok (.iload_n 2, 1) := by decide +kernel
theorem dX12_turns_137 : decode cX12_turns 137 = .ok (.invokevirtual 327, 3) := by decide +kernel
theorem dX12_turns_140 : decode cX12_turns 140 = .ok (.goto 181, 3) := by decide +kernel
theorem dX12_turns_143 : decode cX12_turns 143 = .ok (.aload_n 0, 1) := by decide +kernel
theorem dX12_turns_144 : decode cX12_turns 144 = .ok (.getfield 61, 3) := by decide +kernel
theorem dX12_turns_147 : decode cX12_turns 147 = .ok (.iload_n 1, 1) := by decide +kernel
theorem dX12_turns_148 : decode cX12_turns 148 = .ok (.baload, 1) := by decide +kernel
theorem dX12_turns_149 : decode cX12_turns 149 = .ok (.ifCond .eq 50, 3) := by decide +kernel
theorem dX12_turns_152 : decode cX12_turns 152 = .ok (.aload_n 0, 1) := by decide +kernel
theorem dX12_turns_153 : decode cX12_turns 153 = .ok (.iload_n 1, 1) := by decide +kernel
theorem dX12_turns_154 : decode cX12_turns 154 = .ok (.iconst 3, 1) := by decide +kernel
theorem dX12_turns_155 : decode cX12_turns 155 = .ok (.invokevirtual 323, 3) := by decide +kernel
theorem dX12_turns_158 : decode cX12_turns 158 = .ok (.aload_n 0, 1) := by decide +kernel
theorem dX12_turns_159 : decode cX12_turns 159 = .ok (.iload_n 1, 1) := by decide +kernel
theorem dX12_turns_160 : decode cX12_turns 160 = .ok (.iconst (-1), 1) := by decide +kernel
theorem dX12_turns_161 : decode cX12_turns 161 = .ok (.invokevirtual 331, 3) := by decide +kernel
theorem dX12_turns_164 : decode cX12_turns 164 = .ok (.istore 4, 2) := by decide +kernel
theorem dX12_turns_166 : decode cX12_turns 166 = .ok (.iload 4, 2) := by decide +kernel
theorem dX12_turns_168 : decode cX12_turns 168 = .ok (.iconst (-1), 1) := by decide +kernel
theorem dX12_turns_169 : decode cX12_turns 169 = .ok (.if_icmp .eq 27, 3) := by decide +kernel
theorem dX12_turns_172 : decode cX12_turns 172 = .ok (.aload_n 0, 1) := by decide +kernel
theorem dX12_turns_173 : decode cX12_turns 173 = .ok (.getfield 37, 3) := by decide +kernel
theorem dX12_turns_176 : decode cX12_turns 176 = .ok (.bipush 60, 2) := by decide +kernel
theorem dX12_turns_178 : decode cX12_turns 178 = .ok (.iload_n 1, 1) := by decide +kernel
theorem dX12_turns_179 : decode cX12_turns 179 = .ok (.imul, 1) := by decide +kernel
theorem dX12_turns_180 : decode cX12_turns 180 = .ok (.iload 4, 2) := by decide +kernel
theorem dX12_turns_182 : decode cX12_turns 182 = .ok (.iadd, 1) := by decide +kernel
theorem dX12_turns_183 : decode cX12_turns 183 = .ok (.iaload, 1) := by decide +kernel
theorem dX12_turns_184 : decode cX12_turns 184 = .ok (.iconst 1, 1) := by decide +kernel
theorem dX12_turns_185 : decode cX12_turns 185 = .ok (.if_icmp .eq 11, 3) := by decide +kernel
theorem dX12_turns_188 : decode cX12_turns 188 = .ok (.aload_n 0, 1) := by decide +kernel
theorem dX12_turns_189 : decode cX12_turns 189 = .ok (.iload_n 1, 1) := by decide +kernel
theorem dX12_turns_190 : decode cX12_turns 190 = .ok (.iload 4, 2) := by decide +kernel
theorem dX12_turns_192 : decode cX12_turns 192 = .ok (.iload_n 2, 1) := by decide +kernel
theorem dX12_turns_193 : decode cX12_turns 193 = .ok (.invokevirtual 327, 3) := by decide +kernel
theorem dX12_turns_196 : decode cX12_turns 196 = .ok (.goto 125, 3) := by decide +kernel
theorem dX12_turns_199 : decode cX12_turns 199 = .ok (.bipush 60, 2) := by decide +kernel
theorem dX12_turns_201 : decode cX12_turns 201 = .ok (.iload_n 1, 1) := by decide +kernel
theorem dX12_turns_202 : decode cX12_turns 202 = .ok (.imul, 1) := by decide +kernel
theorem dX12_turns_203 : decode cX12_turns 203 = .ok (.aload_n 0, 1) := by decide +kernel
theorem dX12_turns_204 : decode cX12_turns 204 = .ok (.getfield 58, 3) := by decide +kernel
theorem dX12_turns_207 : decode cX12_turns 207 = .ok (.iload_n 1, 1) := by decide +kernel
theorem dX12_turns_208 : decode cX12_turns 208 = .ok (.iaload, 1) := by decide +kernel
theorem dX12_turns_209 : decode cX12_turns 209 = .ok (.iadd, 1) := by decide +kernel
theorem dX12_turns_210 : decode cX12_turns 210 = .ok (.istore 4, 2) := by decide +kernel
theorem dX12_turns_212 : decode cX12_turns 212 = .ok (.aload_n 0, 1) := by decide +kernel
theorem dX12_turns_213 : decode cX12_turns 213 = .ok (.getfield 58, 3) := by decide +kernel
theorem dX12_turns_216 : decode cX12_turns 216 = .ok (.iload_n 1, 1) := by decide +kernel
theorem dX12_turns_217 : decode cX12_turns 217 = .ok (.iaload, 1) := by decide +kernel
theorem dX12_turns_218 : decode cX12_turns 218 = .ok (.iconst (-1), 1) := by decide +kernel
theorem dX12_turns_219 : decode cX12_turns 219 = .ok (.if_icmp .eq 35, 3) := by decide +kernel
theorem dX12_turns_222 : decode cX12_turns 222 = .ok (.aload_n 0, 1) := by decide +kernel
theorem dX12_turns_223 : decode cX12_turns 223 = .ok (.getfield 52, 3) := by decide +kernel
theorem dX12_turns_226 : decode cX12_turns 226 = .ok (.iload 4, 2) := by decide +kernel
theorem dX12_turns_228 : decode cX12_turns 228 = .ok (.iaload, 1) := by decide +kernel
theorem dX12_turns_229 : decode cX12_turns 229 = .ok (.aload_n 0, 1) := by decide +kernel
theorem dX12_turns_230 : decode cX12_turns 230 = .ok (.getfield 46, 3) := by decide +kernel
theorem dX12_turns_233 : decode cX12_turns 233 = .ok (.iload 4, 2) := by decide +kernel
theorem dX12_turns_235 : decode cX12_turns 235 = .ok (.iaload, 1) := by decide +kernel
theorem dX12_turns_236 : decode cX12_turns 236 = .ok (.if_icmp .lt 18, 3) := by decide +kernel
theorem dX12_turns_239 : decode cX12_turns 239 = .ok (.aload_n 0, 1) := by decide +kernel
theorem dX12_turns_240 : decode cX12_turns 240 = .ok (.getfield 64, 3) := by decide +kernel
theorem dX12_turns_243 : decode cX12_turns 243 = .ok (.iload_n 1, 1) := by decide +kernel
theorem dX12_turns_244 : decode cX12_turns 244 = .ok (.baload, 1) := by decide +kernel
theorem dX12_turns_245 : decode cX12_turns 245 = .ok (.ifCond .ne 9, 3) := by decide +kernel
theorem dX12_turns_248 : decode cX12_turns 248 = .ok (.aload_n 0, 1) := by decide +kernel
theorem dX12_turns_249 : decode cX12_turns 249 = .ok (.iload_n 1, 1) := by decide +kernel
theorem dX12_turns_250 : decode cX12_turns 250 = .ok (.iconst 2, 1) := by decide +kernel
theorem dX12_turns_251 : decode cX12_turns 251 = .ok (.invokevirtual 323, 3) := by decide +kernel
theorem dX12_turns_254 : decode cX12_turns 254 = .ok (.aload_n 0, 1) := by decide +kernel
theorem dX12_turns_255 : decode cX12_turns 255 = .ok (.getfield 58, 3) := by decide +kernel
theorem dX12_turns_258 : decode cX12_turns 258 = .ok (.iload_n 1, 1) := by decide +kernel
theorem dX12_turns_259 : decode cX12_turns 259 = .ok (.iaload, 1) := by decide +kernel
theorem dX12_turns_260 : decode cX12_turns 260 = .ok (.iconst (-1), 1) := by decide +kernel
theorem dX12_turns_261 : decode cX12_turns 261 = .ok (.if_icmp .ne 12, 3) := by decide +kernel
theorem dX12_turns_264 : decode cX12_turns 264 = .ok (.aload_n 0, 1) := by decide +kernel
theorem dX12_turns_265 : decode cX12_turns 265 = .ok (.iload_n 1, 1) := by decide +kernel
theorem dX12_turns_266 : decode cX12_turns 266 = .ok (.iconst (-1), 1) := by decide +kernel
theorem dX12_turns_267 : decode cX12_turns 267 = .ok (.invokevirtual 331, 3) := by decide +kernel
theorem dX12_turns_270 : decode cX12_turns 270 = .ok (.goto 4, 3) := by decide +kernel
theorem dX12_turns_273 : decode cX12_turns 273 = .ok (.iconst (-1), 1) := by decide +kernel
theorem dX12_turns_274 : decode cX12_turns 274 = .ok (.istore 5, 2) := by decide +kernel
theorem dX12_turns_276 : decode cX12_turns 276 = .ok (.iload 5, 2) := by decide +kernel
theorem dX12_turns_278 : decode cX12_turns 278 = .ok (.iconst (-1), 1) := by decide +kernel
theorem dX12_turns_279 : decode cX12_turns 279 = .ok (.if_icmp .eq 42, 3) := by decide +kernel
theorem dX12_turns_282 : decode cX12_turns 282 = .ok (.aload_n 0, 1) := by decide +kernel
theorem dX12_turns_283 : decode cX12_turns 283 = .ok (.getfield 37, 3) := by decide +kernel
theorem dX12_turns_286 : decode cX12_turns 286 = .ok (.bipush 60, 2) := by decide +kernel
theorem dX12_turns_288 : decode cX12_turns 288 = .ok (.iload_n 1, 1) := by decide +kernel
theorem dX12_turns_289 : decode cX12_turns 289 = .ok (.imul, 1) := by decide +kernel
theorem dX12_turns_290 : decode cX12_turns 290 = .ok (.iload 5, 2) := by decide +kernel
theorem dX12_turns_292 : decode cX12_turns 292 = .ok (.iadd, 1) := by decide +kernel
theorem dX12_turns_293 : decode cX12_turns 293 = .ok (.iaload, 1) := by decide +kernel
theorem dX12_turns_294 : decode cX12_turns 294 = .ok (.ifCond .eq 19, 3) := by decide +kernel
theorem dX12_turns_297 : decode cX12_turns 297 = .ok (.aload_n 0, 1) := by decide +kernel
theorem dX12_turns_298 : decode cX12_turns 298 = .ok (.getfield 37, 3) := by decide +kernel
theorem dX12_turns_301 : decode cX12_turns 301 = .ok (.bipush 60, 2) := by decide +kernel
theorem dX12_turns_303 : decode cX12_turns 303 = .ok (.iload_n 1, 1) := by decide +kernel
theorem dX12_turns_304 : decode cX12_turns 304 = .ok (.imul, 1) := by decide +kernel
theorem dX12_turns_305 : decode cX12_turns 305 = .ok (.iload 5, 2) := by decide +kernel
theorem dX12_turns_307 : decode cX12_turns 307 = .ok (.iadd, 1) := by decide +kernel
theorem dX12_turns_308 : decode cX12_turns 308 = .ok (.iaload, 1) := by decide +kernel
theorem dX12_turns_309 : decode cX12_turns 309 = .ok (.iconst 3, 1) := by decide +kernel
theorem dX12_turns_310 : decode cX12_turns 310 = .ok (.if_icmp .ne 11, 3) := by decide +kernel
theorem dX12_turns_313 : decode cX12_turns 313 = .ok (.aload_n 0, 1) := by decide +kernel
theorem dX12_turns_314 : decode cX12_turns 314 = .ok (.iload_n 1, 1) := by decide +kernel
theorem dX12_turns_315 : decode cX12_turns 315 = .ok (.iload 5, 2) := by decide +kernel
theorem dX12_turns_317 : decode cX12_turns 317 = .ok (.iload_n 2, 1) := by decide +kernel
theorem dX12_turns_318 : decode cX12_turns 318 = .ok (.invokevirtual 327, 3) := by decide +kernel
theorem dX12_turns_321 : decode cX12_turns 321 = .ok (.aload_n 0, 1) := by decide +kernel
theorem dX12_turns_322 : decode cX12_turns 322 = .ok (.getfield 61, 3) := by decide +kernel
theorem dX12_turns_325 : decode cX12_turns 325 = .ok (.iload_n 1, 1) := by decide +kernel
theorem dX12_turns_326 : decode cX12_turns 326 = .ok (.iconst 0, 1) := by decide +kernel
theorem dX12_turns_327 : decode cX12_turns 327 = .ok (.bastore, 1) := by decide +kernel
theorem dX12_turns_328 : decode cX12_turns 328 = .ok (.return_, 1) := by decide +kernel
theorem dX12_chosen_0 : decode cX12_chosen 0 = .ok (.aload_n 0, 1) := by decide +kernel
theorem dX12_chosen_1 : decode cX12_chosen 1 = .ok (.iload_n 1, 1) := by decide +kernel
theorem dX12_chosen_2 : decode cX12_chosen 2 = .ok (.iconst 1, 1) := by decide +kernel
theorem dX12_chosen_3 : decode cX12_chosen 3 = .ok (.invokevirtual 331, 3) := by decide +kernel
theorem dX12_chosen_6 : decode cX12_chosen 6 = .ok (.istore_n 3, 1) := by decide +kernel
theorem dX12_chosen_7 : decode cX12_chosen 7 = .ok (.aload_n 0, 1) := by decide +kernel
theorem dX12_chosen_8 : decode cX12_chosen 8 = .ok (.getfield 298, 3) := by decide +kernel
theorem dX12_chosen_11 : decode cX12_chosen 11 = .ok (.ifCond .eq 8, 3) := by decide +kernel
theorem dX12_chosen_14 : decode cX12_chosen 14 = .ok (.iload_n 3, 1) := by decide +kernel
theorem dX12_chosen_15 : decode cX12_chosen 15 = .ok (.iconst (-1), 1) := by decide +kernel
theorem dX12_chosen_16 : decode cX12_chosen 16 = .ok (.if_icmp .ne 16, 3) := by decide +kernel
theorem dX12_chosen_19 : decode cX12_chosen 19 = .ok (.aload_n 0, 1) := by decide +kernel
theorem dX12_chosen_20 : decode cX12_chosen 20 = .ok (.getfield 298, 3) := by decide +kernel
theorem dX12_chosen_23 : decode cX12_chosen 23 = .ok (.ifCond .ne 7, 3) := by decide +kernel
theorem dX12_chosen_26 : decode cX12_chosen 26 = .ok (.iconst (-1), 1) := by decide +kernel
theorem dX12_chosen_27 : decode cX12_chosen 27 = .ok (.goto 4, 3) := by decide +kernel
theorem dX12_chosen_30 : decode cX12_chosen 30 = .ok (.iconst 0, 1) := by decide +kernel
theorem dX12_chosen_31 : decode cX12_chosen 31 = .ok (.ireturn, 1) := by decide +kernel
theorem dX12_chosen_32 : decode cX12_chosen 32 = .ok (.aload_n 0, 1) := by decide +kernel
theorem dX12_chosen_33 : decode cX12_chosen 33 = .ok (.getfield 40, 3) := by decide +kernel
theorem dX12_chosen_36 : decode cX12_chosen 36 = .ok (.bipush 60, 2) := by decide +kernel
theorem dX12_chosen_38 : decode cX12_chosen 38 = .ok (.iload_n 1, 1) := by decide +kernel
theorem dX12_chosen_39 : decode cX12_chosen 39 = .ok (.imul, 1) := by decide +kernel
theorem dX12_chosen_40 : decode cX12_chosen 40 = .ok (.iload_n 3, 1) := by decide +kernel
theorem dX12_chosen_41 : decode cX12_chosen 41 = .ok (.iadd, 1) := by decide +kernel
theorem dX12_chosen_42 : decode cX12_chosen 42 = .ok (.iaload, 1) := by decide +kernel
theorem dX12_chosen_43 : decode cX12_chosen 43 = .ok (.iload_n 2, 1) := by decide +kernel
theorem dX12_chosen_44 : decode cX12_chosen 44 = .ok (.isub, 1) := by decide +kernel
theorem dX12_chosen_45 : decode cX12_chosen 45 = .ok (.istore 4, 2) := by decide +kernel
theorem dX12_chosen_47 : decode cX12_chosen 47 = .ok (.aload_n 0, 1) := by decide +kernel
theorem dX12_chosen_48 : decode cX12_chosen 48 = .ok (.getfield 26, 3) := by decide +kernel
theorem dX12_chosen_51 : decode cX12_chosen 51 = .ok (.sipush 3001, 3) := by decide +kernel
theorem dX12_chosen_54 : decode cX12_chosen 54 = .ok (.iload 4, 2) := by decide +kernel
theorem dX12_chosen_56 : decode cX12_chosen 56 = .ok (.invokestatic 335, 3) := by decide +kernel
theorem dX12_chosen_59 : decode cX12_chosen 59 = .ok (.istore 5, 2) := by decide +kernel
theorem dX12_chosen_61 : decode cX12_chosen 61 = .ok (.iload 5, 2) := by decide +kernel
theorem dX12_chosen_63 : decode cX12_chosen 63 = .ok (.ifCond .le 22, 3) := by decide +kernel
theorem dX12_chosen_66 : decode cX12_chosen 66 = .ok (.aload_n 0, 1) := by decide +kernel
theorem dX12_chosen_67 : decode cX12_chosen 67 = .ok (.getfield 26, 3) := by decide +kernel
theorem dX12_chosen_70 : decode cX12_chosen 70 = .ok (.sipush 3001, 3) := by decide +kernel
theorem dX12_chosen_73 : decode cX12_chosen 73 = .ok (.aload_n 0, 1) := by decide +kernel
theorem dX12_chosen_74 : decode cX12_chosen 74 = .ok (.getfield 19, 3) := by decide +kernel
theorem dX12_chosen_77 : decode cX12_chosen 77 = .ok (.iload 5, 2) := by decide +kernel
theorem dX12_chosen_79 : decode cX12_chosen 79 = .ok (.iload 4, 2) := by decide +kernel
theorem dX12_chosen_81 : decode cX12_chosen 81 = .ok (.invokestatic 339, 3) := by decide +kernel
theorem dX12_chosen_84 : decode cX12_chosen 84 = .ok (.ireturn, 1) := by decide +kernel
theorem dX12_chosen_85 : decode cX12_chosen 85 = .ok (.iconst (-1), 1) := by decide +kernel
theorem dX12_chosen_86 : decode cX12_chosen 86 = .ok (.istore 6, 2) := by decide +kernel
theorem dX12_chosen_88 : decode cX12_chosen 88 = .ok (.iconst 0, 1) := by decide +kernel
theorem dX12_chosen_89 : decode cX12_chosen 89 = .ok (.istore 7, 2) := by decide +kernel
theorem dX12_chosen_91 : decode cX12_chosen 91 = .ok (.iload 7, 2) := by decide +kernel
theorem dX12_chosen_93 : decode cX12_chosen 93 = .ok (.aload_n 0, 1) := by decide +kernel
theorem dX12_chosen_94 : decode cX12_chosen 94 = .ok (.getfield 298, 3) := by decide +kernel
theorem dX12_chosen_97 : decode cX12_chosen 97 = .ok (.if_icmp .ge 48, 3) := by decide +kernel
theorem dX12_chosen_100 : decode cX12_chosen 100 = .ok (.aload_n 0, 1) := by decide +kernel
theorem dX12_chosen_101 : decode cX12_chosen 101 = .ok (.getfield 19, 3) := by decide +kernel
theorem dX12_chosen_104 : decode cX12_chosen 104 = .ok (.iload 7, 2) := by decide +kernel
theorem dX12_chosen_106 : decode cX12_chosen 106 = .ok (.iaload, 1) := by decide +kernel
theorem dX12_chosen_107 : decode cX12_chosen 107 = .ok (.iload 4, 2) := by decide +kernel
theorem dX12_chosen_109 : decode cX12_chosen 109 = .ok (.if_icmp .gt 30, 3) := by decide +kernel
theorem dX12_chosen_112 : decode cX12_chosen 112 = .ok (.iload 6, 2) := by decide +kernel
theorem dX12_chosen_114 : decode cX12_chosen 114 = .ok (.iconst (-1), 1) := by decide +kernel
theorem dX12_chosen_115 : decode cX12_chosen 115 = .ok (.if_icmp .eq 20, 3) := by decide +kernel
theorem dX12_chosen_118 : decode cX12_chosen 118 = .ok (.aload_n 0, 1) := by decide +kernel
theorem dX12_chosen_119 : decode cX12_chosen 119 = .ok (.getfield 19, 3) := by decide +kernel
theorem dX12_chosen_122 : decode cX12_chosen 122 = .ok (.iload 7, 2) := by decide +kernel
theorem dX12_chosen_124 : decode cX12_chosen 124 = .ok (.iaload, 1) := by decide +kernel
theorem dX12_chosen_125 : decode cX12_chosen 125 = .ok (.aload_n 0, 1) := by decide +kernel
theorem dX12_chosen_126 : decode cX12_chosen 126 = .ok (.getfield 19, 3) := by decide +kernel
theorem dX12_chosen_129 : decode cX12_chosen 129 = .ok (.iload 6, 2) := by decide +kernel
theorem dX12_chosen_131 : decode cX12_chosen 131 = .ok (.iaload, 1) := by decide +kernel
theorem dX12_chosen_132 : decode cX12_chosen 132 = .ok (.if_icmp .le 7, 3) := by decide +kernel
theorem dX12_chosen_135 : decode cX12_chosen 135 = .ok (.iload 7, 2) := by decide +kernel
theorem dX12_chosen_137 : decode cX12_chosen 137 = .ok (.istore 6, 2) := by decide +kernel
theorem dX12_chosen_139 : decode cX12_chosen 139 = .ok (.iinc 7 1, 3) := by decide +kernel
theorem dX12_chosen_142 : decode cX12_chosen 142 = .ok (.goto (-51), 3) := by decide +kernel
theorem dX12_chosen_145 : decode cX12_chosen 145 = .ok (.iload 6, 2) := by decide +kernel
theorem dX12_chosen_147 : decode cX12_chosen 147 = .ok (.ireturn, 1) := by decide +kernel
theorem dX12_plays_0 : decode cX12_plays 0 = .ok (.aload_n 0, 1) := by decide +kernel
theorem dX12_plays_1 : decode cX12_plays 1 = .ok (.iload_n 1, 1) := by decide +kernel
theorem dX12_plays_2 : decode cX12_plays 2 = .ok (.iload_n 2, 1) := by decide +kernel
theorem dX12_plays_3 : decode cX12_plays 3 = .ok (.invokevirtual 343, 3) := by decide +kernel
theorem dX12_plays_6 : decode cX12_plays 6 = .ok (.sipush 3000, 3) := by decide +kernel
theorem dX12_plays_9 : decode cX12_plays 9 = .ok (.iload_n 1, 1) := by decide +kernel
theorem dX12_plays_10 : decode cX12_plays 10 = .ok (.imul, 1) := by decide +kernel
theorem dX12_plays_11 : decode cX12_plays 11 = .ok (.iload_n 2, 1) := by decide +kernel
theorem dX12_plays_12 : decode cX12_plays 12 = .ok (.iadd, 1) := by decide +kernel
theorem dX12_plays_13 : decode cX12_plays 13 = .ok (.istore_n 3, 1) := by decide +kernel
theorem dX12_plays_14 : decode cX12_plays 14 = .ok (.iconst 0, 1) := by decide +kernel
theorem dX12_plays_15 : decode cX12_plays 15 = .ok (.istore 4, 2) := by decide +kernel
theorem dX12_plays_17 : decode cX12_plays 17 = .ok (.aload_n 0, 1) := by decide +kernel
theorem dX12_plays_18 : decode cX12_plays 18 = .ok (.getfield 82, 3) := by decide +kernel
theorem dX12_plays_21 : decode cX12_plays 21 = .ok (.iload_n 3, 1) := by decide +kernel
theorem dX12_plays_22 : decode cX12_plays 22 = .ok (.iconst 0, 1) := by decide +kernel
theorem dX12_plays_23 : decode cX12_plays 23 = .ok (.iastore, 1) := by decide +kernel
theorem dX12_plays_24 : decode cX12_plays 24 = .ok (.aload_n 0, 1) := by decide +kernel
theorem dX12_plays_25 : decode cX12_plays 25 = .ok (.getfield 97, 3) := by decide +kernel
theorem dX12_plays_28 : decode cX12_plays 28 = .ok (.iload_n 3, 1) := by decide +kernel
theorem dX12_plays_29 : decode cX12_plays 29 = .ok (.iconst 0, 1) := by decide +kernel
theorem dX12_plays_30 : decode cX12_plays 30 = .ok (.iastore, 1) := by decide +kernel
theorem dX12_plays_31 : decode cX12_plays 31 = .ok (.aload_n 0, 1) := by decide +kernel
theorem dX12_plays_32 : decode cX12_plays 32 = .ok (.getfield 58, 3) := by decide +kernel
theorem dX12_plays_35 : decode cX12_plays 35 = .ok (.iload_n 1, 1) := by decide +kernel
theorem dX12_plays_36 : decode cX12_plays 36 = .ok (.iaload, 1) := by decide +kernel
theorem dX12_plays_37 : decode cX12_plays 37 = .ok (.iconst (-1), 1) := by decide +kernel
theorem dX12_plays_38 : decode cX12_plays 38 = .ok (.if_icmp .eq 175, 3) := by decide +kernel
theorem dX12_plays_41 : decode cX12_plays 41 = .ok (.bipush 60, 2) := by decide +kernel
theorem dX12_plays_43 : decode cX12_plays 43 = .ok (.iload_n 1, 1) := by decide +kernel
theorem dX12_plays_44 : decode cX12_plays 44 = .ok (.imul, 1) := by decide +kernel
theorem dX12_plays_45 : decode cX12_plays 45 = .ok (.aload_n 0, 1) := by decide +kernel
theorem dX12_plays_46 : decode cX12_plays 46 = .ok (.getfield 58, 3) := by decide +kernel
theorem dX12_plays_49 : decode cX12_plays 49 = .ok (.iload_n 1, 1) := by decide +kernel
theorem dX12_plays_50 : decode cX12_plays 50 = .ok (.iaload, 1) := by decide +kernel
theorem dX12_plays_51 : decode cX12_plays 51 = .ok (.iadd, 1) := by decide +kernel
theorem dX12_plays_52 : decode cX12_plays 52 = .ok (.istore 5, 2) := by decide +kernel
theorem dX12_plays_54 : decode cX12_plays 54 = .ok (.aload_n 0, 1) := by decide +kernel
theorem dX12_plays_55 : decode cX12_plays 55 = .ok (.getfield 52, 3) := by decide +kernel
theorem dX12_plays_58 : decode cX12_plays 58 = .ok (.iload 5, 2) := by decide +kernel
theorem dX12_plays_60 : decode cX12_plays 60 = .ok (.iaload, 1) := by decide +kernel
theorem dX12_plays_61 : decode cX12_plays 61 = .ok (.aload_n 0, 1) := by decide +kernel
theorem dX12_plays_62 : decode cX12_plays 62 = .ok (.getfield 46, 3) := by decide +kernel
theorem dX12_plays_65 : decode cX12_plays 65 = .ok (.iload 5, 2) := by decide +kernel
theorem dX12_plays_67 : decode cX12_plays 67 = .ok (.iaload, 1) := by decide +kernel
theorem dX12_plays_68 : decode cX12_plays 68 = .ok (.iconst 1, 1) := by decide +kernel
theorem dX12_plays_69 : decode cX12_plays 69 = .ok (.isub, 1) := by decide +kernel
theorem dX12_plays_70 : decode cX12_plays 70 = .ok (.if_icmp .ge 13, 3) := by decide +kernel
theorem dX12_plays_73 : decode cX12_plays 73 = .ok (.aload_n 0, 1) := by decide +kernel
theorem dX12_plays_74 : decode cX12_plays 74 = .ok (.getfield 52, 3) := by decide +kernel
theorem dX12_plays_77 : decode cX12_plays 77 = .ok (.iload 5, 2) := by decide +kernel
theorem dX12_plays_79 : decode cX12_plays 79 = .ok (.iaload, 1) := by decide +kernel
theorem dX12_plays_80 : decode cX12_plays 80 = .ok (.goto 12, 3) := by decide +kernel
theorem dX12_plays_83 : decode cX12_plays 83 = .ok (.aload_n 0, 1) := by decide +kernel
theorem dX12_plays_84 : decode cX12_plays 84 = .ok (.getfield 46, 3) := by decide +kernel
theorem dX12_plays_87 : decode cX12_plays 87 = .ok (.iload 5, 2) := by decide +kernel
theorem dX12_plays_89 : decode cX12_plays 89 = .ok (.iaload, 1) := by decide +kernel
theorem dX12_plays_90 : decode cX12_plays 90 = .ok (.iconst 1, 1) := by decide +kernel
theorem dX12_plays_91 : decode cX12_plays 91 = .ok (.isub, 1) := by decide +kernel
theorem dX12_plays_92 : decode cX12_plays 92 = .ok (.istore 6, 2) := by decide +kernel
theorem dX12_plays_94 : decode cX12_plays 94 = .ok (.aload_n 0, 1) := by decide +kernel
theorem dX12_plays_95 : decode cX12_plays 95 = .ok (.getfield 55, 3) := by decide +kernel
theorem dX12_plays_98 : decode cX12_plays 98 = .ok (.iload 5, 2) := by decide +kernel
theorem dX12_plays_100 : decode cX12_plays 100 = .ok (.iaload, 1) := by decide +kernel
theorem dX12_plays_101 : decode cX12_plays 101 = .ok (.iload_n 2, 1) := by decide +kernel
theorem dX12_plays_102 : decode cX12_plays 102 = .ok (.if_icmp .ne 7, 3) := by decide +kernel
theorem dX12_plays_105 : decode cX12_plays 105 = .ok (.iconst 1, 1) := by decide +kernel
theorem dX12_plays_106 : decode cX12_plays 106 = .ok (.goto 4, 3) := by decide +kernel
theorem dX12_plays_109 : decode cX12_plays 109 = .ok (.iconst 0, 1) := by decide +kernel
theorem dX12_plays_110 : decode cX12_plays 110 = .ok (.istore 4, 2) := by decide +kernel
theorem dX12_plays_112 : decode cX12_plays 112 = .ok (.aload_n 0, 1) := by decide +kernel
theorem dX12_plays_113 : decode cX12_plays 113 = .ok (.iload_n 3, 1) := by decide +kernel
theorem dX12_plays_114 : decode cX12_plays 114 = .ok (.iconst 1, 1) := by decide +kernel
theorem dX12_plays_115 : decode cX12_plays 115 = .ok (.aload_n 0, 1) := by decide +kernel
theorem dX12_plays_116 : decode cX12_plays 116 = .ok (.getfield 58, 3) := by decide +kernel
theorem dX12_plays_119 : decode cX12_plays 119 = .ok (.iload_n 1, 1) := by decide +kernel
theorem dX12_plays_120 : decode cX12_plays 120 = .ok (.iaload, 1) := by decide +kernel
theorem dX12_plays_121 : decode cX12_plays 121 = .ok (.aload_n 0, 1) := by decide +kernel
theorem dX12_plays_122 : decode cX12_plays 122 = .ok (.getfield 43, 3) := by decide +kernel
theorem dX12_plays_125 : decode cX12_plays 125 = .ok (.iload 5, 2) := by decide +kernel
theorem dX12_plays_127 : decode cX12_plays 127 = .ok (.iaload, 1) := by decide +kernel
theorem dX12_plays_128 : decode cX12_plays 128 = .ok (.iload 6, 2) := by decide +kernel
theorem dX12_plays_130 : decode cX12_plays 130 = .ok (.aload_n 0, 1) := by decide +kernel
theorem dX12_plays_131 : decode cX12_plays 131 = .ok (.getfield 7, 3) := by decide +kernel
theorem dX12_plays_134 : decode cX12_plays 134 = .ok (.aload_n 0, 1) := by decide +kernel
theorem dX12_plays_135 : decode cX12_plays 135 = .ok (.getfield 43, 3) := by decide +kernel
theorem dX12_plays_138 : decode cX12_plays 138 = .ok (.iload 5, 2) := by decide +kernel
theorem dX12_plays_140 : decode cX12_plays 140 = .ok (.iaload, 1) := by decide +kernel
theorem dX12_plays_141 : decode cX12_plays 141 = .ok (.iaload, 1) := by decide +kernel
theorem dX12_plays_142 : decode cX12_plays 142 = .ok (.irem, 1) := by decide +kernel
theorem dX12_plays_143 : decode cX12_plays 143 = .ok (.invokevirtual 346, 3) := by decide +kernel
theorem dX12_plays_146 : decode cX12_plays 146 = .ok (.aload_n 0, 1) := by decide +kernel
theorem dX12_plays_147 : decode cX12_plays 147 = .ok (.getfield 97, 3) := by decide +kernel
theorem dX12_plays_150 : decode cX12_plays 150 = .ok (.iload_n 3, 1) := by decide +kernel
theorem dX12_plays_151 : decode cX12_plays 151 = .ok (.aload_n 0, 1) := by decide +kernel
theorem dX12_plays_152 : decode cX12_plays 152 = .ok (.getfield 37, 3) := by decide +kernel
theorem dX12_plays_155 : decode cX12_plays 155 = .ok (.iload 5, 2) := by decide +kernel
theorem dX12_plays_157 : decode cX12_plays 157 = .ok (.iaload, 1) := by decide +kernel
theorem dX12_plays_158 : decode cX12_plays 158 = .ok (.iconst 3, 1) := by decide +kernel
theorem dX12_plays_159 : decode cX12_plays 159 = .ok (.if_icmp .ne 38, 3) := by decide +kernel
theorem dX12_plays_162 : decode cX12_plays 162 = .ok (.aload_n 0, 1) := by decide +kernel
theorem dX12_plays_163 : decode cX12_plays 163 = .ok (.getfield 46, 3) := by decide +kernel
theorem dX12_plays_166 : decode cX12_plays 166 = .ok (.iload 5, 2) := by decide +kernel
theorem dX12_plays_168 : decode cX12_plays 168 = .ok (.iaload, 1) := by decide +kernel
theorem dX12_plays_169 : decode cX12_plays 169 = .ok (.aload_n 0, 1) := by decide +kernel
theorem dX12_plays_170 : decode cX12_plays 170 = .ok (.getfield 52, 3) := by decide +kernel
theorem dX12_plays_173 : decode cX12_plays 173 = .ok (.iload 5, 2) := by decide +kernel
theorem dX12_plays_175 : decode cX12_plays 175 = .ok (.iaload, 1) := by decide +kernel
theorem dX12_plays_176 : decode cX12_plays 176 = .ok (.if_icmp .le 21, 3) := by decide +kernel
theorem dX12_plays_179 : decode cX12_plays 179 = .ok (.aload_n 0, 1) := by decide +kernel
theorem dX12_plays_180 : decode cX12_plays 180 = .ok (.getfield 46, 3) := by decide +kernel
theorem dX12_plays_183 : decode cX12_plays 183 = .ok (.iload 5, 2) := by decide +kernel
theorem dX12_plays_185 : decode cX12_plays 185 = .ok (.iaload, 1) := by decide +kernel
theorem dX12_plays_186 : decode cX12_plays 186 = .ok (.aload_n 0, 1) := by decide +kernel
theorem dX12_plays_187 : decode cX12_plays 187 = .ok (.getfield 52, 3) := by decide +kernel
theorem dX12_plays_190 : decode cX12_plays 190 = .ok (.iload 5, 2) := by decide +kernel
theorem dX12_plays_192 : decode cX12_plays 192 = .ok (.iaload, 1) := by decide +kernel
theorem dX12_plays_193 : decode cX12_plays 193 = .ok (.isub, 1) := by decide +kernel
theorem dX12_plays_194 : decode cX12_plays 194 = .ok (.goto 4, 3) := by decide +kernel
theorem dX12_plays_197 : decode cX12_plays 197 = .ok (.iconst 0, 1) := by decide +kernel
theorem dX12_plays_198 : decode cX12_plays 198 = .ok (.iastore, 1) := by decide +kernel
theorem dX12_plays_199 : decode cX12_plays 199 = .ok (.aload_n 0, 1) := by decide +kernel
theorem dX12_plays_200 : decode cX12_plays 200 = .ok (.getfield 52, 3) := by decide +kernel
theorem dX12_plays_203 : decode cX12_plays 203 = .ok (.iload 5, 2) := by decide +kernel
theorem dX12_plays_205 : decode cX12_plays 205 = .ok (.dup2, 1) := by decide +kernel
theorem dX12_plays_206 : decode cX12_plays 206 = .ok (.iaload, 1) := by decide +kernel
theorem dX12_plays_207 : decode cX12_plays 207 = .ok (.iconst 1, 1) := by decide +kernel
theorem dX12_plays_208 : decode cX12_plays 208 = .ok (.iadd, 1) := by decide +kernel
theorem dX12_plays_209 : decode cX12_plays 209 = .ok (.iastore, 1) := by decide +kernel
theorem dX12_plays_210 : decode cX12_plays 210 = .ok (.goto 133, 3) := by decide +kernel
theorem dX12_plays_213 : decode cX12_plays 213 = .ok (.aload_n 0, 1) := by decide +kernel
theorem dX12_plays_214 : decode cX12_plays 214 = .ok (.getfield 76, 3) := by decide +kernel
theorem dX12_plays_217 : decode cX12_plays 217 = .ok (.iload_n 1, 1) := by decide +kernel
theorem dX12_plays_218 : decode cX12_plays 218 = .ok (.iaload, 1) := by decide +kernel
theorem dX12_plays_219 : decode cX12_plays 219 = .ok (.iconst (-1), 1) := by decide +kernel
theorem dX12_plays_220 : decode cX12_plays 220 = .ok (.if_icmp .ne 22, 3) := by decide +kernel
theorem dX12_plays_223 : decode cX12_plays 223 = .ok (.aload_n 0, 1) := by decide +kernel
theorem dX12_plays_224 : decode cX12_plays 224 = .ok (.getfield 76, 3) := by decide +kernel
theorem dX12_plays_227 : decode cX12_plays 227 = .ok (.iload_n 1, 1) := by decide +kernel
theorem dX12_plays_228 : decode cX12_plays 228 = .ok (.aload_n 0, 1) := by decide +kernel
theorem dX12_plays_229 : decode cX12_plays 229 = .ok (.iload_n 1, 1) := by decide +kernel
theorem dX12_plays_230 : decode cX12_plays 230 = .ok (.iload_n 2, 1) := by decide +kernel
theorem dX12_plays_231 : decode cX12_plays 231 = .ok (.invokevirtual 350, 3) := by decide +kernel
theorem dX12_plays_234 : decode cX12_plays 234 = .ok (.iastore, 1) := by decide +kernel
theorem dX12_plays_235 : decode cX12_plays 235 = .ok (.aload_n 0, 1) := by decide +kernel
theorem dX12_plays_236 : decode cX12_plays 236 = .ok (.getfield 79, 3) := by decide +kernel
theorem dX12_plays_239 : decode cX12_plays 239 = .ok (.iload_n 1, 1) := by decide +kernel
theorem dX12_plays_240 : decode cX12_plays 240 = .ok (.iconst 0, 1) := by decide +kernel
theorem dX12_plays_241 : decode cX12_plays 241 = .ok (.iastore, 1) := by decide +kernel
theorem dX12_plays_242 : decode cX12_plays 242 = .ok (.aload_n 0, 1) := by decide +kernel
theorem dX12_plays_243 : decode cX12_plays 243 = .ok (.getfield 76, 3) := by decide +kernel
theorem dX12_plays_246 : decode cX12_plays 246 = .ok (.iload_n 1, 1) := by decide +kernel
theorem dX12_plays_247 : decode cX12_plays 247 = .ok (.iaload, 1) := by decide +kernel
theorem dX12_plays_248 : decode cX12_plays 248 = .ok (.iconst (-1), 1) := by decide +kernel
theorem dX12_plays_249 : decode cX12_plays 249 = .ok (.if_icmp .eq 94, 3) := by decide +kernel
theorem dX12_plays_252 : decode cX12_plays 252 = .ok (.aload_n 0, 1) := by decide +kernel
theorem dX12_plays_253 : decode cX12_plays 253 = .ok (.getfield 79, 3) := by decide +kernel
theorem dX12_plays_256 : decode cX12_plays 256 = .ok (.iload_n 1, 1) := by decide +kernel
theorem dX12_plays_257 : decode cX12_plays 257 = .ok (.iaload, 1) := by decide +kernel
theorem dX12_plays_258 : decode cX12_plays 258 = .ok (.ifCond .ne 7, 3) := by decide +kernel
theorem dX12_plays_261 : decode cX12_plays 261 = .ok (.iconst 1, 1) := by decide +kernel
theorem dX12_plays_262 : decode cX12_plays 262 = .ok (.goto 4, 3) := by decide +kernel
theorem dX12_plays_265 : decode cX12_plays 265 = .ok (.iconst 0, 1) := by decide +kernel
theorem dX12_plays_266 : decode cX12_plays 266 = .ok (.istore 4, 2) := by decide +kernel
theorem dX12_plays_268 : decode cX12_plays 268 = .ok (.aload_n 0, 1) := by decide +kernel
theorem dX12_plays_269 : decode cX12_plays 269 = .ok (.iload_n 3, 1) := by decide +kernel
theorem dX12_plays_270 : decode cX12_plays 270 = .ok (.iconst 2, 1) := by decide +kernel
theorem dX12_plays_271 : decode cX12_plays 271 = .ok (.aload_n 0, 1) := by decide +kernel
theorem dX12_plays_272 : decode cX12_plays 272 = .ok (.getfield 76, 3) := by decide +kernel
theorem dX12_plays_275 : decode cX12_plays 275 = .ok (.iload_n 1, 1) := by decide +kernel
theorem dX12_plays_276 : decode cX12_plays 276 = .ok (.iaload, 1) := by decide +kernel
theorem dX12_plays_277 : decode cX12_plays 277 = .ok (.aload_n 0, 1) := by decide +kernel
theorem dX12_plays_278 : decode cX12_plays 278 = .ok (.getfield 16, 3) := by decide +kernel
theorem dX12_plays_281 : decode cX12_plays 281 = .ok (.aload_n 0, 1) := by decide +kernel
theorem dX12_plays_282 : decode cX12_plays 282 = .ok (.getfield 76, 3) := by decide +kernel
theorem dX12_plays_285 : decode cX12_plays 285 = .ok (.iload_n 1, 1) := by decide +kernel
theorem dX12_plays_286 : decode cX12_plays 286 = .ok (.iaload, 1) := by decide +kernel
theorem dX12_plays_287 : decode cX12_plays 287 = .ok (.iaload, 1) := by decide +kernel
theorem dX12_plays_288 : decode cX12_plays 288 = .ok (.aload_n 0, 1) := by decide +kernel
theorem dX12_plays_289 : decode cX12_plays 289 = .ok (.getfield 79, 3) := by decide +kernel
theorem dX12_plays_292 : decode cX12_plays 292 = .ok (.iload_n 1, 1) := by decide +kernel
theorem dX12_plays_293 : decode cX12_plays 293 = .ok (.iaload, 1) := by decide +kernel
theorem dX12_plays_294 : decode cX12_plays 294 = .ok (.invokevirtual 346, 3) := by decide +kernel
theorem dX12_plays_297 : decode cX12_plays 297 = .ok (.aload_n 0, 1) := by decide +kernel
theorem dX12_plays_298 : decode cX12_plays 298 = .ok (.getfield 79, 3) := by decide +kernel
theorem dX12_plays_301 : decode cX12_plays 301 = .ok (.iload_n 1, 1) := by decide +kernel
theorem dX12_plays_302 : decode cX12_plays 302 = .ok (.dup2, 1) := by decide +kernel
theorem dX12_plays_303 : decode cX12_plays 303 = .ok (.iaload, 1) := by decide +kernel
theorem dX12_plays_304 : decode cX12_plays 304 = .ok (.iconst 1, 1) := by decide +kernel
theorem dX12_plays_305 : decode cX12_plays 305 = .ok (.iadd, 1) := by decide +kernel
theorem dX12_plays_306 : decode cX12_plays 306 = .ok (.iastore, 1) := by decide +kernel
theorem dX12_plays_307 : decode cX12_plays 307 = .ok (.aload_n 0, 1) := by decide +kernel
theorem dX12_plays_308 : decode cX12_plays 308 = .ok (.getfield 76, 3) := by decide +kernel
theorem dX12_plays_311 : decode cX12_plays 311 = .ok (.iload_n 1, 1) := by decide +kernel
theorem dX12_plays_312 : decode cX12_plays 312 = .ok (.aload_n 0, 1) := by decide +kernel
theorem dX12_plays_313 : decode cX12_plays 313 = .ok (.getfield 79, 3) := by decide +kernel
theorem dX12_plays_316 : decode cX12_plays 316 = .ok (.iload_n 1, 1) := by decide +kernel
theorem dX12_plays_317 : decode cX12_plays 317 = .ok (.iaload, 1) := by decide +kernel
theorem dX12_plays_318 : decode cX12_plays 318 = .ok (.aload_n 0, 1) := by decide +kernel
theorem dX12_plays_319 : decode cX12_plays 319 = .ok (.getfield 19, 3) := by decide +kernel
theorem dX12_plays_322 : decode cX12_plays 322 = .ok (.aload_n 0, 1) := by decide +kernel
theorem dX12_plays_323 : decode cX12_plays 323 = .ok (.getfield 76, 3) := by decide +kernel
theorem dX12_plays_326 : decode cX12_plays 326 = .ok (.iload_n 1, 1) := by decide +kernel
theorem dX12_plays_327 : decode cX12_plays 327 = .ok (.iaload, 1) := by decide +kernel
theorem dX12_plays_328 : decode cX12_plays 328 = .ok (.iaload, 1) := by decide +kernel
theorem dX12_plays_329 : decode cX12_plays 329 = .ok (.if_icmp .ne 7, 3) := by decide +kernel
theorem dX12_plays_332 : decode cX12_plays 332 = .ok (.iconst (-1), 1) := by decide +kernel
theorem dX12_plays_333 : decode cX12_plays 333 = .ok (.goto 9, 3) := by decide +kernel
theorem dX12_plays_336 : decode cX12_plays 336 = .ok (.aload_n 0, 1) := by decide +kernel
theorem dX12_plays_337 : decode cX12_plays 337 = .ok (.getfield 76, 3) := by decide +kernel
theorem dX12_plays_340 : decode cX12_plays 340 = .ok (.iload_n 1, 1) := by decide +kernel
theorem dX12_plays_341 : decode cX12_plays 341 = .ok (.iaload, 1) := by decide +kernel
theorem dX12_plays_342 : decode cX12_plays 342 = .ok (.iastore, 1) := by decide +kernel
theorem dX12_plays_343 : decode cX12_plays 343 = .ok (.aload_n 0, 1) := by decide +kernel
theorem dX12_plays_344 : decode cX12_plays 344 = .ok (.getfield 94, 3) := by decide +kernel
theorem dX12_plays_347 : decode cX12_plays 347 = .ok (.iload_n 3, 1) := by decide +kernel
theorem dX12_plays_348 : decode cX12_plays 348 = .ok (.aload_n 0, 1) := by decide +kernel
theorem dX12_plays_349 : decode cX12_plays 349 = .ok (.getfield 67, 3) := by decide +kernel
theorem dX12_plays_352 : decode cX12_plays 352 = .ok (.iload_n 1, 1) := by decide +kernel
theorem dX12_plays_353 : decode cX12_plays 353 = .ok (.iaload, 1) := by decide +kernel
theorem dX12_plays_354 : decode cX12_plays 354 = .ok (.iastore, 1) := by decide +kernel
theorem dX12_plays_355 : decode cX12_plays 355 = .ok (.iconst 2, 1) := by decide +kernel
theorem dX12_plays_356 : decode cX12_plays 356 = .ok (.iload_n 1, 1) := by decide +kernel
theorem dX12_plays_357 : decode cX12_plays 357 = .ok (.imul, 1) := by decide +kernel
theorem dX12_plays_358 : decode cX12_plays 358 = .ok (.aload_n 0, 1) := by decide +kernel
theorem dX12_plays_359 : decode cX12_plays 359 = .ok (.getfield 67, 3) := by decide +kernel
theorem dX12_plays_362 : decode cX12_plays 362 = .ok (.iload_n 1, 1) := by decide +kernel
theorem dX12_plays_363 : decode cX12_plays 363 = .ok (.iaload, 1) := by decide +kernel
theorem dX12_plays_364 : decode cX12_plays 364 = .ok (.iadd, 1) := by decide +kernel
theorem dX12_plays_365 : decode cX12_plays 365 = .ok (.istore 5, 2) := by decide +kernel
theorem dX12_plays_367 : decode cX12_plays 367 = .ok (.iload_n 2, 1) := by decide +kernel
theorem dX12_plays_368 : decode cX12_plays 368 = .ok (.aload_n 0, 1) := by decide +kernel
theorem dX12_plays_369 : decode cX12_plays 369 = .ok (.getfield 70, 3) := by decide +kernel
theorem dX12_plays_372 : decode cX12_plays 372 = .ok (.iload 5, 2) := by decide +kernel
theorem dX12_plays_374 : decode cX12_plays 374 = .ok (.iaload, 1) := by decide +kernel
theorem dX12_plays_375 : decode cX12_plays 375 = .ok (.if_icmp .lt 35, 3) := by decide +kernel
theorem dX12_plays_378 : decode cX12_plays 378 = .ok (.iload_n 2, 1) := by decide +kernel
theorem dX12_plays_379 : decode cX12_plays 379 = .ok (.aload_n 0, 1) := by decide +kernel
theorem dX12_plays_380 : decode cX12_plays 380 = .ok (.getfield 73, 3) := by decide +kernel
theorem dX12_plays_383 : decode cX12_plays 383 = .ok (.iload 5, 2) := by decide +kernel
theorem dX12_plays_385 : decode cX12_plays 385 = .ok (.iaload, 1) := by decide +kernel
theorem dX12_plays_386 : decode cX12_plays 386 = .ok (.if_icmp .ge 24, 3) := by decide +kernel
theorem dX12_plays_389 : decode cX12_plays 389 = .ok (.aload_n 0, 1) := by decide +kernel
theorem dX12_plays_390 : decode cX12_plays 390 = .ok (.getfield 82, 3) := by decide +kernel
theorem dX12_plays_393 : decode cX12_plays 393 = .ok (.iload_n 3, 1) := by decide +kernel
theorem dX12_plays_394 : decode cX12_plays 394 = .ok (.iconst 0, 1) := by decide +kernel
theorem dX12_plays_395 : decode cX12_plays 395 = .ok (.iastore, 1) := by decide +kernel
theorem dX12_plays_396 : decode cX12_plays 396 = .ok (.aload_n 0, 1) := by decide +kernel
theorem dX12_plays_397 : decode cX12_plays 397 = .ok (.getfield 67, 3) := by decide +kernel
theorem dX12_plays_400 : decode cX12_plays 400 = .ok (.iload_n 1, 1) := by decide +kernel
theorem dX12_plays_401 : decode cX12_plays 401 = .ok (.iconst 1, 1) := by decide +kernel
theorem dX12_plays_402 : decode cX12_plays 402 = .ok (.aload_n 0, 1) := by decide +kernel
theorem dX12_plays_403 : decode cX12_plays 403 = .ok (.getfield 67, 3) := by decide +kernel
theorem dX12_plays_406 : decode cX12_plays 406 = .ok (.iload_n 1, 1) := by decide +kernel
theorem dX12_plays_407 : decode cX12_plays 407 = .ok (.iaload, 1) := by decide +kernel
theorem dX12_plays_408 : decode cX12_plays 408 = .ok (.isub, 1) := by decide +kernel
theorem dX12_plays_409 : decode cX12_plays 409 = .ok (.iastore, 1) := by decide +kernel
theorem dX12_plays_410 : decode cX12_plays 410 = .ok (.aload_n 0, 1) := by decide +kernel
theorem dX12_plays_411 : decode cX12_plays 411 = .ok (.getfield 82, 3) := by decide +kernel
theorem dX12_plays_414 : decode cX12_plays 414 = .ok (.iload_n 3, 1) := by decide +kernel
theorem dX12_plays_415 : decode cX12_plays 415 = .ok (.iaload, 1) := by decide +kernel
theorem dX12_plays_416 : decode cX12_plays 416 = .ok (.ifCond .ne 22, 3) := by decide +kernel
theorem dX12_plays_419 : decode cX12_plays 419 = .ok (.aload_n 0, 1) := by decide +kernel
theorem dX12_plays_420 : decode cX12_plays 420 = .ok (.iload_n 3, 1) := by decide +kernel
theorem dX12_plays_421 : decode cX12_plays 421 = .ok (.iconst 0, 1) := by decide +kernel
theorem dX12_plays_422 : decode cX12_plays 422 = .ok (.iconst (-1), 1) := by decide +kernel
theorem dX12_plays_423 : decode cX12_plays 423 = .ok (.iconst (-1), 1) := by decide +kernel
theorem dX12_plays_424 : decode cX12_plays 424 = .ok (.iconst (-1), 1) := by decide +kernel
theorem dX12_plays_425 : decode cX12_plays 425 = .ok (.invokevirtual 346, 3) := by decide +kernel
theorem dX12_plays_428 : decode cX12_plays 428 = .ok (.aload_n 0, 1) := by decide +kernel
theorem dX12_plays_429 : decode cX12_plays 429 = .ok (.getfield 97, 3) := by decide +kernel
theorem dX12_plays_432 : decode cX12_plays 432 = .ok (.iload_n 3, 1) := by decide +kernel
theorem dX12_plays_433 : decode cX12_plays 433 = .ok (.iconst 0, 1) := by decide +kernel
theorem dX12_plays_434 : decode cX12_plays 434 = .ok (.iastore, 1) := by decide +kernel
theorem dX12_plays_435 : decode cX12_plays 435 = .ok (.iconst 0, 1) := by decide +kernel
theorem dX12_plays_436 : decode cX12_plays 436 = .ok (.istore 4, 2) := by decide +kernel
theorem dX12_plays_438 : decode cX12_plays 438 = .ok (.iload_n 2, 1) := by decide +kernel
theorem dX12_plays_439 : decode cX12_plays 439 = .ok (.ifCond .eq 41, 3) := by decide +kernel
theorem dX12_plays_442 : decode cX12_plays 442 = .ok (.iload 4, 2) := by decide +kernel
theorem dX12_plays_444 : decode cX12_plays 444 = .ok (.ifCond .ne 36, 3) := by decide +kernel
theorem dX12_plays_447 : decode cX12_plays 447 = .ok (.aload_n 0, 1) := by decide +kernel
theorem dX12_plays_448 : decode cX12_plays 448 = .ok (.getfield 82, 3) := by decide +kernel
theorem dX12_plays_451 : decode cX12_plays 451 = .ok (.iload_n 3, 1) := by decide +kernel
theorem dX12_plays_452 : decode cX12_plays 452 = .ok (.iaload, 1) := by decide +kernel
theorem dX12_plays_453 : decode cX12_plays 453 = .ok (.ifCond .ne 7, 3) := by decide +kernel
theorem dX12_plays_456 : decode cX12_plays 456 = .ok (.iconst 1, 1) := by decide +kernel
theorem dX12_plays_457 : decode cX12_plays 457 = .ok (.goto 4, 3) := by decide +kernel
theorem dX12_plays_460 : decode cX12_plays 460 = .ok (.iconst 0, 1) := by decide +kernel
theorem dX12_plays_461 : decode cX12_plays 461 = .ok (.aload_n 0, 1) := by decide +kernel
theorem dX12_plays_462 : decode cX12_plays 462 = .ok (.getfield 82, 3) := by decide +kernel
theorem dX12_plays_465 : decode cX12_plays 465 = .ok (.iload_n 3, 1) := by decide +kernel
theorem dX12_plays_466 : decode cX12_plays 466 = .ok (.iconst 1, 1) := by decide +kernel
theorem dX12_plays_467 : decode cX12_plays 467 = .ok (.isub, 1) := by decide +kernel
theorem dX12_plays_468 : decode cX12_plays 468 = .ok (.iaload, 1) := by decide +kernel
theorem dX12_plays_469 : decode cX12_plays 469 = .ok (.ifCond .ne 7, 3) := by decide +kernel
theorem dX12_plays_472 : decode cX12_plays 472 = .ok (.iconst 1, 1) := by decide +kernel
theorem dX12_plays_473 : decode cX12_plays 473 = .ok (.goto 4, 3) := by decide +kernel
theorem dX12_plays_476 : decode cX12_plays 476 = .ok (.iconst 0, 1) := by decide +kernel
theorem dX12_plays_477 : decode cX12_plays 477 = .ok (.if_icmp .eq 26, 3) := by decide +kernel
theorem dX12_plays_480 : decode cX12_plays 480 = .ok (.aload_n 0, 1) := by decide +kernel
theorem dX12_plays_481 : decode cX12_plays 481 = .ok (.getfield 103, 3) := by decide +kernel
theorem dX12_plays_484 : decode cX12_plays 484 = .ok (.sipush 3000, 3) := by decide +kernel
theorem dX12_plays_487 : decode cX12_plays 487 = .ok (.iload_n 1, 1) := by decide +kernel
theorem dX12_plays_488 : decode cX12_plays 488 = .ok (.imul, 1) := by decide +kernel
theorem dX12_plays_489 : decode cX12_plays 489 = .ok (.aload_n 0, 1) := by decide +kernel
theorem dX12_plays_490 : decode cX12_plays 490 = .ok (.getfield 100, 3) := by decide +kernel
theorem dX12_plays_493 : decode cX12_plays 493 = .ok (.iload_n 1, 1) := by decide +kernel
theorem dX12_plays_494 : decode cX12_plays 494 = .ok (.dup2, 1) := by decide +kernel
theorem dX12_plays_495 : decode cX12_plays 495 = .ok (.iaload, 1) := by decide +kernel
theorem dX12_plays_496 : decode cX12_plays 496 = .ok (.dup_x2, 1) := by decide +kernel
theorem dX12_plays_497 : decode cX12_plays 497 = .ok (.iconst 1, 1) := by decide +kernel
theorem dX12_plays_498 : decode cX12_plays 498 = .ok (.iadd, 1) := by decide +kernel
theorem dX12_plays_499 : decode cX12_plays 499 = .ok (.iastore, 1) := by decide +kernel
theorem dX12_plays_500 : decode cX12_plays 500 = .ok (.iadd, 1) := by decide +kernel
theorem dX12_plays_501 : decode cX12_plays 501 = .ok (.iload_n 2, 1) := by decide +kernel
theorem dX12_plays_502 : decode cX12_plays 502 = .ok (.iastore, 1) := by decide +kernel
theorem dX12_plays_503 : decode cX12_plays 503 = .ok (.return_, 1) := by decide +kernel
theorem dX12_gives_0 : decode cX12_gives 0 = .ok (.aload_n 0, 1) := by decide +kernel
theorem dX12_gives_1 : decode cX12_gives 1 = .ok (.getfield 82, 3) := by decide +kernel
theorem dX12_gives_4 : decode cX12_gives 4 = .ok (.iload_n 1, 1) := by decide +kernel
theorem dX12_gives_5 : decode cX12_gives 5 = .ok (.iload_n 2, 1) := by decide +kernel
theorem dX12_gives_6 : decode cX12_gives 6 = .ok (.iastore, 1) := by decide +kernel
theorem dX12_gives_7 : decode cX12_gives 7 = .ok (.aload_n 0, 1) := by decide +kernel
theorem dX12_gives_8 : decode cX12_gives 8 = .ok (.getfield 85, 3) := by decide +kernel
theorem dX12_gives_11 : decode cX12_gives 11 = .ok (.iload_n 1, 1) := by decide +kernel
theorem dX12_gives_12 : decode cX12_gives 12 = .ok (.iload_n 3, 1) := by decide +kernel
theorem dX12_gives_13 : decode cX12_gives 13 = .ok (.iastore, 1) := by decide +kernel
theorem dX12_gives_14 : decode cX12_gives 14 = .ok (.aload_n 0, 1) := by decide +kernel
theorem dX12_gives_15 : decode cX12_gives 15 = .ok (.getfield 88, 3) := by decide +kernel
theorem dX12_gives_18 : decode cX12_gives 18 = .ok (.iload_n 1, 1) := by decide +kernel
theorem dX12_gives_19 : decode cX12_gives 19 = .ok (.iload 4, 2) := by decide +kernel
theorem dX12_gives_21 : decode cX12_gives 21 = .ok (.iastore, 1) := by decide +kernel
theorem dX12_gives_22 : decode cX12_gives 22 = .ok (.aload_n 0, 1) := by decide +kernel
theorem dX12_gives_23 : decode cX12_gives 23 = .ok (.getfield 91, 3) := by decide +kernel
theorem dX12_gives_26 : decode cX12_gives 26 = .ok (.iload_n 1, 1) := by decide +kernel
theorem dX12_gives_27 : decode cX12_gives 27 = .ok (.iload 5, 2) := by decide +kernel
theorem dX12_gives_29 : decode cX12_gives 29 = .ok (.iastore, 1) := by decide +kernel
theorem dX12_gives_30 : decode cX12_gives 30 = .ok (.return_, 1) := by decide +kernel
theorem dX12_set_0 : decode cX12_set 0 = .ok (.iload_n 1, 1) := by decide +kernel
theorem dX12_set_1 : decode cX12_set 1 = .ok (.invokestatic 308, 3) := by decide +kernel
theorem dX12_set_4 : decode cX12_set 4 = .ok (.ifCond .eq 43, 3) := by decide +kernel
theorem dX12_set_7 : decode cX12_set 7 = .ok (.iload_n 2, 1) := by decide +kernel
theorem dX12_set_8 : decode cX12_set 8 = .ok (.i2l, 1) := by decide +kernel
theorem dX12_set_9 : decode cX12_set 9 = .ok (.ldc2_w 353, 3) := by decide +kernel
theorem dX12_set_12 : decode cX12_set 12 = .ok (.ldc2_w 291, 3) := by decide +kernel
theorem dX12_set_15 : decode cX12_set 15 = .ok (.invokestatic 287, 3) := by decide +kernel
theorem dX12_set_18 : decode cX12_set 18 = .ok (.ifCond .eq 29, 3) := by decide +kernel
theorem dX12_set_21 : decode cX12_set 21 = .ok (.iload_n 3, 1) := by decide +kernel
theorem dX12_set_22 : decode cX12_set 22 = .ok (.i2l, 1) := by decide +kernel
theorem dX12_set_23 : decode cX12_set 23 = .ok (.iload_n 2, 1) := by decide +kernel
theorem dX12_set_24 : decode cX12_set 24 = .ok (.i2l, 1) := by decide +kernel
theorem dX12_set_25 : decode cX12_set 25 = .ok (.ldc2_w 355, 3) := by decide +kernel
theorem dX12_set_28 : decode cX12_set 28 = .ok (.invokestatic 287, 3) := by decide +kernel
theorem dX12_set_31 : decode cX12_set 31 = .ok (.ifCond .eq 16, 3) := by decide +kernel
theorem dX12_set_34 : decode cX12_set 34 = .ok (.iload 4, 2) := by decide +kernel
theorem dX12_set_36 : decode cX12_set 36 = .ok (.i2l, 1) := by decide +kernel
theorem dX12_set_37 : decode cX12_set 37 = .ok (.lconst 1, 1) := by decide +kernel
theorem dX12_set_38 : decode cX12_set 38 = .ok (.ldc2_w 293, 3) := by decide +kernel
theorem dX12_set_41 : decode cX12_set 41 = .ok (.invokestatic 287, 3) := by decide +kernel
theorem dX12_set_44 : decode cX12_set 44 = .ok (.ifCond .ne 6, 3) := by decide +kernel
theorem dX12_set_47 : decode cX12_set 47 = .ok (.bipush (-2), 2) := by decide +kernel
theorem dX12_set_49 : decode cX12_set 49 = .ok (.ireturn, 1) := by decide +kernel
theorem dX12_set_50 : decode cX12_set 50 = .ok (.aload_n 0, 1) := by decide +kernel
theorem dX12_set_51 : decode cX12_set 51 = .ok (.getfield 106, 3) := by decide +kernel
theorem dX12_set_54 : decode cX12_set 54 = .ok (.iload_n 1, 1) := by decide +kernel
theorem dX12_set_55 : decode cX12_set 55 = .ok (.iload_n 2, 1) := by decide +kernel
theorem dX12_set_56 : decode cX12_set 56 = .ok (.iastore, 1) := by decide +kernel
theorem dX12_set_57 : decode cX12_set 57 = .ok (.aload_n 0, 1) := by decide +kernel
theorem dX12_set_58 : decode cX12_set 58 = .ok (.getfield 109, 3) := by decide +kernel
theorem dX12_set_61 : decode cX12_set 61 = .ok (.iload_n 1, 1) := by decide +kernel
theorem dX12_set_62 : decode cX12_set 62 = .ok (.iload_n 3, 1) := by decide +kernel
theorem dX12_set_63 : decode cX12_set 63 = .ok (.iastore, 1) := by decide +kernel
theorem dX12_set_64 : decode cX12_set 64 = .ok (.aload_n 0, 1) := by decide +kernel
theorem dX12_set_65 : decode cX12_set 65 = .ok (.getfield 112, 3) := by decide +kernel
theorem dX12_set_68 : decode cX12_set 68 = .ok (.iload_n 1, 1) := by decide +kernel
theorem dX12_set_69 : decode cX12_set 69 = .ok (.iload 4, 2) := by decide +kernel
theorem dX12_set_71 : decode cX12_set 71 = .ok (.iastore, 1) := by decide +kernel
theorem dX12_set_72 : decode cX12_set 72 = .ok (.iconst 1, 1) := by decide +kernel
theorem dX12_set_73 : decode cX12_set 73 = .ok (.ireturn, 1) := by decide +kernel
theorem dX12_buffer_0 : decode cX12_buffer 0 = .ok (.iload_n 1, 1) := by decide +kernel
theorem dX12_buffer_1 : decode cX12_buffer 1 = .ok (.invokestatic 308, 3) := by decide +kernel
theorem dX12_buffer_4 : decode cX12_buffer 4 = .ok (.ifCond .eq 17, 3) := by decide +kernel
theorem dX12_buffer_7 : decode cX12_buffer 7 = .ok (.iload_n 2, 1) := by decide +kernel
theorem dX12_buffer_8 : decode cX12_buffer 8 = .ok (.i2l, 1) := by decide +kernel
theorem dX12_buffer_9 : decode cX12_buffer 9 = .ok (.ldc2_w 291, 3) := by decide +kernel
theorem dX12_buffer_12 : decode cX12_buffer 12 = .ok (.ldc2_w 357, 3) := by decide +kernel
theorem dX12_buffer_15 : decode cX12_buffer 15 = .ok (.invokestatic 287, 3) := by decide +kernel
theorem dX12_buffer_18 : decode cX12_buffer 18 = .ok (.ifCond .ne 6, 3) := by decide +kernel
theorem dX12_buffer_21 : decode cX12_buffer 21 = .ok (.bipush (-2), 2) := by decide +kernel
theorem dX12_buffer_23 : decode cX12_buffer 23 = .ok (.ireturn, 1) := by decide +kernel
theorem dX12_buffer_24 : decode cX12_buffer 24 = .ok (.aload_n 0, 1) := by decide +kernel
theorem dX12_buffer_25 : decode cX12_buffer 25 = .ok (.getfield 115, 3) := by decide +kernel
theorem dX12_buffer_28 : decode cX12_buffer 28 = .ok (.iload_n 1, 1) := by decide +kernel
theorem dX12_buffer_29 : decode cX12_buffer 29 = .ok (.iaload, 1) := by decide +kernel
theorem dX12_buffer_30 : decode cX12_buffer 30 = .ok (.istore_n 3, 1) := by decide +kernel
theorem dX12_buffer_31 : decode cX12_buffer 31 = .ok (.aload_n 0, 1) := by decide +kernel
theorem dX12_buffer_32 : decode cX12_buffer 32 = .ok (.getfield 115, 3) := by decide +kernel
theorem dX12_buffer_35 : decode cX12_buffer 35 = .ok (.iload_n 1, 1) := by decide +kernel
theorem dX12_buffer_36 : decode cX12_buffer 36 = .ok (.iload_n 2, 1) := by decide +kernel
theorem dX12_buffer_37 : decode cX12_buffer 37 = .ok (.iastore, 1) := by decide +kernel
theorem dX12_buffer_38 : decode cX12_buffer 38 = .ok (.iload_n 3, 1) := by decide +kernel
theorem dX12_buffer_39 : decode cX12_buffer 39 = .ok (.ireturn, 1) := by decide +kernel
theorem dX12_total_0 : decode cX12_total 0 = .ok (.iload_n 1, 1) := by decide +kernel
theorem dX12_total_1 : decode cX12_total 1 = .ok (.i2l, 1) := by decide +kernel
theorem dX12_total_2 : decode cX12_total 2 = .ok (.lconst 0, 1) := by decide +kernel
theorem dX12_total_3 : decode cX12_total 3 = .ok (.ldc2_w 359, 3) := by decide +kernel
theorem dX12_total_6 : decode cX12_total 6 = .ok (.invokestatic 287, 3) := by decide +kernel
theorem dX12_total_9 : decode cX12_total 9 = .ok (.ifCond .ne 6, 3) := by decide +kernel
theorem dX12_total_12 : decode cX12_total 12 = .ok (.bipush (-2), 2) := by decide +kernel
theorem dX12_total_14 : decode cX12_total 14 = .ok (.ireturn, 1) := by decide +kernel
theorem dX12_total_15 : decode cX12_total 15 = .ok (.aload_n 0, 1) := by decide +kernel
theorem dX12_total_16 : decode cX12_total 16 = .ok (.getfield 118, 3) := by decide +kernel
theorem dX12_total_19 : decode cX12_total 19 = .ok (.istore_n 2, 1) := by decide +kernel
theorem dX12_total_20 : decode cX12_total 20 = .ok (.aload_n 0, 1) := by decide +kernel
theorem dX12_total_21 : decode cX12_total 21 = .ok (.iload_n 1, 1) := by decide +kernel
theorem dX12_total_22 : decode cX12_total 22 = .ok (.putfield 118, 3) := by decide +kernel
theorem dX12_total_25 : decode cX12_total 25 = .ok (.iload_n 2, 1) := by decide +kernel
theorem dX12_total_26 : decode cX12_total 26 = .ok (.ireturn, 1) := by decide +kernel
theorem dX12_service_0 : decode cX12_service 0 = .ok (.iload_n 1, 1) := by decide +kernel
theorem dX12_service_1 : decode cX12_service 1 = .ok (.invokestatic 308, 3) := by decide +kernel
theorem dX12_service_4 : decode cX12_service 4 = .ok (.ifCond .ne 6, 3) := by decide +kernel
theorem dX12_service_7 : decode cX12_service 7 = .ok (.bipush (-2), 2) := by decide +kernel
theorem dX12_service_9 : decode cX12_service 9 = .ok (.ireturn, 1) := by decide +kernel
theorem dX12_service_10 : decode cX12_service 10 = .ok (.aload_n 0, 1) := by decide +kernel
theorem dX12_service_11 : decode cX12_service 11 = .ok (.getfield 122, 3) := by decide +kernel
theorem dX12_service_14 : decode cX12_service 14 = .ok (.iload_n 1, 1) := by decide +kernel
theorem dX12_service_15 : decode cX12_service 15 = .ok (.baload, 1) := by decide +kernel
theorem dX12_service_16 : decode cX12_service 16 = .ok (.ifCond .eq 7, 3) := by decide +kernel
theorem dX12_service_19 : decode cX12_service 19 = .ok (.iconst 1, 1) := by decide +kernel
theorem dX12_service_20 : decode cX12_service 20 = .ok (.goto 4, 3) := by decide +kernel
theorem dX12_service_23 : decode cX12_service 23 = .ok (.iconst 0, 1) := by decide +kernel
theorem dX12_service_24 : decode cX12_service 24 = .ok (.istore_n 3, 1) := by decide +kernel
theorem dX12_service_25 : decode cX12_service 25 = .ok (.aload_n 0, 1) := by decide +kernel
theorem dX12_service_26 : decode cX12_service 26 = .ok (.getfield 122, 3) := by decide +kernel
theorem dX12_service_29 : decode cX12_service 29 = .ok (.iload_n 1, 1) := by decide +kernel
theorem dX12_service_30 : decode cX12_service 30 = .ok (.iload_n 2, 1) := by decide +kernel
theorem dX12_service_31 : decode cX12_service 31 = .ok (.bastore, 1) := by decide +kernel
theorem dX12_service_32 : decode cX12_service 32 = .ok (.iload_n 3, 1) := by decide +kernel
theorem dX12_service_33 : decode cX12_service 33 = .ok (.ireturn, 1) := by decide +kernel
theorem dX12_summed_0 : decode cX12_summed 0 = .ok (.iload_n 1, 1) := by decide +kernel
theorem dX12_summed_1 : decode cX12_summed 1 = .ok (.iconst 4, 1) := by decide +kernel
theorem dX12_summed_2 : decode cX12_summed 2 = .ok (.ishl, 1) := by decide +kernel
theorem dX12_summed_3 : decode cX12_summed 3 = .ok (.aload_n 0, 1) := by decide +kernel
theorem dX12_summed_4 : decode cX12_summed 4 = .ok (.getfield 151, 3) := by decide +kernel
theorem dX12_summed_7 : decode cX12_summed 7 = .ok (.iload_n 1, 1) := by decide +kernel
theorem dX12_summed_8 : decode cX12_summed 8 = .ok (.bipush 28, 2) := by decide +kernel
theorem dX12_summed_10 : decode cX12_summed 10 = .ok (.iushr, 1) := by decide +kernel
theorem dX12_summed_11 : decode cX12_summed 11 = .ok (.iload_n 2, 1) := by decide +kernel
theorem dX12_summed_12 : decode cX12_summed 12 = .ok (.iconst 4, 1) := by decide +kernel
theorem dX12_summed_13 : decode cX12_summed 13 = .ok (.ishr, 1) := by decide +kernel
theorem dX12_summed_14 : decode cX12_summed 14 = .ok (.ixor, 1) := by decide +kernel
theorem dX12_summed_15 : decode cX12_summed 15 = .ok (.bipush 15, 2) := by decide +kernel
theorem dX12_summed_17 : decode cX12_summed 17 = .ok (.iand, 1) := by decide +kernel
theorem dX12_summed_18 : decode cX12_summed 18 = .ok (.iaload, 1) := by decide +kernel
theorem dX12_summed_19 : decode cX12_summed 19 = .ok (.ixor, 1) := by decide +kernel
theorem dX12_summed_20 : decode cX12_summed 20 = .ok (.istore_n 3, 1) := by decide +kernel
theorem dX12_summed_21 : decode cX12_summed 21 = .ok (.iload_n 3, 1) := by decide +kernel
theorem dX12_summed_22 : decode cX12_summed 22 = .ok (.iconst 4, 1) := by decide +kernel
theorem dX12_summed_23 : decode cX12_summed 23 = .ok (.ishl, 1) := by decide +kernel
theorem dX12_summed_24 : decode cX12_summed 24 = .ok (.aload_n 0, 1) := by decide +kernel
theorem dX12_summed_25 : decode cX12_summed 25 = .ok (.getfield 151, 3) := by decide +kernel
theorem dX12_summed_28 : decode cX12_summed 28 = .ok (.iload_n 3, 1) := by decide +kernel
theorem dX12_summed_29 : decode cX12_summed 29 = .ok (.bipush 28, 2) := by decide +kernel
theorem dX12_summed_31 : decode cX12_summed 31 = .ok (.iushr, 1) := by decide +kernel
theorem dX12_summed_32 : decode cX12_summed 32 = .ok (.iload_n 2, 1) := by decide +kernel
theorem dX12_summed_33 : decode cX12_summed 33 = .ok (.ixor, 1) := by decide +kernel
theorem dX12_summed_34 : decode cX12_summed 34 = .ok (.bipush 15, 2) := by decide +kernel
theorem dX12_summed_36 : decode cX12_summed 36 = .ok (.iand, 1) := by decide +kernel
theorem dX12_summed_37 : decode cX12_summed 37 = .ok (.iaload, 1) := by decide +kernel
theorem dX12_summed_38 : decode cX12_summed 38 = .ok (.ixor, 1) := by decide +kernel
theorem dX12_summed_39 : decode cX12_summed 39 = .ok (.ireturn, 1) := by decide +kernel
theorem dX12_checkOf_0 : decode cX12_checkOf 0 = .ok (.iconst (-1), 1) := by decide +kernel
theorem dX12_checkOf_1 : decode cX12_checkOf 1 = .ok (.istore 4, 2) := by decide +kernel
theorem dX12_checkOf_3 : decode cX12_checkOf 3 = .ok (.iload_n 2, 1) := by decide +kernel
theorem dX12_checkOf_4 : decode cX12_checkOf 4 = .ok (.istore 5, 2) := by decide +kernel
theorem dX12_checkOf_6 : decode cX12_checkOf 6 = .ok (.iload 5, 2) := by decide +kernel
theorem dX12_checkOf_8 : decode cX12_checkOf 8 = .ok (.iload_n 3, 1) := by decide +kernel
theorem dX12_checkOf_9 : decode cX12_checkOf 9 = .ok (.if_icmp .ge 25, 3) := by decide +kernel
theorem dX12_checkOf_12 : decode cX12_checkOf 12 = .ok (.aload_n 0, 1) := by decide +kernel
theorem dX12_checkOf_13 : decode cX12_checkOf 13 = .ok (.iload 4, 2) := by decide +kernel
theorem dX12_checkOf_15 : decode cX12_checkOf 15 = .ok (.aload_n 1, 1) := by decide +kernel
theorem dX12_checkOf_16 : decode cX12_checkOf 16 = .ok (.iload 5, 2) := by decide +kernel
theorem dX12_checkOf_18 : decode cX12_checkOf 18 = .ok (.baload, 1) := by decide +kernel
theorem dX12_checkOf_19 : decode cX12_checkOf 19 = .ok (.sipush 255, 3) := by decide +kernel
theorem dX12_checkOf_22 : decode cX12_checkOf 22 = .ok (.iand, 1) := by decide +kernel
theorem dX12_checkOf_23 : decode cX12_checkOf 23 = .ok (.invokevirtual 361, 3) := by decide +kernel
theorem dX12_checkOf_26 : decode cX12_checkOf 26 = .ok (.istore 4, 2) := by decide +kernel
theorem dX12_checkOf_28 : decode cX12_checkOf 28 = .ok (.iinc 5 1, 3) := by decide +kernel
theorem dX12_checkOf_31 : decode cX12_checkOf 31 = .ok (.goto (-25), 3) := by decide +kernel
theorem dX12_checkOf_34 : decode cX12_checkOf 34 = .ok (.iload 4, 2) := by decide +kernel
theorem dX12_checkOf_36 : decode cX12_checkOf 36 = .ok (.ireturn, 1) := by decide +kernel
theorem dX12_checkOf__0 : decode cX12_checkOf_ 0 = .ok (.iconst (-1), 1) := by decide +kernel
theorem dX12_checkOf__1 : decode cX12_checkOf_ 1 = .ok (.istore 4, 2) := by decide +kernel
theorem dX12_checkOf__3 : decode cX12_checkOf_ 3 = .ok (.iload_n 2, 1) := by decide +kernel
theorem dX12_checkOf__4 : decode cX12_checkOf_ 4 = .ok (.istore 5, 2) := by decide +kernel
theorem dX12_checkOf__6 : decode cX12_checkOf_ 6 = .ok (.iload 5, 2) := by decide +kernel
theorem dX12_checkOf__8 : decode cX12_checkOf_ 8 = .ok (.iload_n 3, 1) := by decide +kernel
theorem dX12_checkOf__9 : decode cX12_checkOf_ 9 = .ok (.if_icmp .ge 21, 3) := by decide +kernel
theorem dX12_checkOf__12 : decode cX12_checkOf_ 12 = .ok (.aload_n 0, 1) := by decide +kernel
theorem dX12_checkOf__13 : decode cX12_checkOf_ 13 = .ok (.iload 4, 2) := by decide +kernel
theorem dX12_checkOf__15 : decode cX12_checkOf_ 15 = .ok (.aload_n 1, 1) := by decide +kernel
theorem dX12_checkOf__16 : decode cX12_checkOf_ 16 = .ok (.iload 5, 2) := by decide +kernel
theorem dX12_checkOf__18 : decode cX12_checkOf_ 18 = .ok (.iaload, 1) := by decide +kernel
theorem dX12_checkOf__19 : decode cX12_checkOf_ 19 = .ok (.invokevirtual 361, 3) := by decide +kernel
theorem dX12_checkOf__22 : decode cX12_checkOf_ 22 = .ok (.istore 4, 2) := by decide +kernel
theorem dX12_checkOf__24 : decode cX12_checkOf_ 24 = .ok (.iinc 5 1, 3) := by decide +kernel
theorem dX12_checkOf__27 : decode cX12_checkOf_ 27 = .ok (.goto (-21), 3) := by decide +kernel
theorem dX12_checkOf__30 : decode cX12_checkOf_ 30 = .ok (.iload 4, 2) := by decide +kernel
theorem dX12_checkOf__32 : decode cX12_checkOf_ 32 = .ok (.ireturn, 1) := by decide +kernel
theorem dX12_services_0 : decode cX12_services 0 = .ok (.iconst 0, 1) := by decide +kernel
theorem dX12_services_1 : decode cX12_services 1 = .ok (.istore_n 2, 1) := by decide +kernel
theorem dX12_services_2 : decode cX12_services 2 = .ok (.iconst 0, 1) := by decide +kernel
theorem dX12_services_3 : decode cX12_services 3 = .ok (.istore_n 3, 1) := by decide +kernel
theorem dX12_services_4 : decode cX12_services 4 = .ok (.iload_n 3, 1) := by decide +kernel
theorem dX12_services_5 : decode cX12_services 5 = .ok (.iconst 3, 1) := by decide +kernel
theorem dX12_services_6 : decode cX12_services 6 = .ok (.if_icmp .ge 137, 3) := by decide +kernel
theorem dX12_services_9 : decode cX12_services 9 = .ok (.iload_n 2, 1) := by decide +kernel
theorem dX12_services_10 : decode cX12_services 10 = .ok (.aload_n 0, 1) := by decide +kernel
theorem dX12_services_11 : decode cX12_services 11 = .ok (.getfield 122, 3) := by decide +kernel
theorem dX12_services_14 : decode cX12_services 14 = .ok (.iload_n 3, 1) := by decide +kernel
theorem dX12_services_15 : decode cX12_services 15 = .ok (.baload, 1) := by decide +kernel
theorem dX12_services_16 : decode cX12_services 16 = .ok (.aload_n 0, 1) := by decide +kernel
theorem dX12_services_17 : decode cX12_services 17 = .ok (.getfield 125, 3) := by decide +kernel
theorem dX12_services_20 : decode cX12_services 20 = .ok (.iload_n 3, 1) := by decide +kernel
theorem dX12_services_21 : decode cX12_services 21 = .ok (.baload, 1) := by decide +kernel
theorem dX12_services_22 : decode cX12_services 22 = .ok (.if_icmp .eq 7, 3) := by decide +kernel
theorem dX12_services_25 : decode cX12_services 25 = .ok (.iconst 1, 1) := by decide +kernel
theorem dX12_services_26 : decode cX12_services 26 = .ok (.goto 4, 3) := by decide +kernel
theorem dX12_services_29 : decode cX12_services 29 = .ok (.iconst 0, 1) := by decide +kernel
theorem dX12_services_30 : decode cX12_services 30 = .ok (.ior, 1) := by decide +kernel
theorem dX12_services_31 : decode cX12_services 31 = .ok (.istore_n 2, 1) := by decide +kernel
theorem dX12_services_32 : decode cX12_services 32 = .ok (.iload_n 1, 1) := by decide +kernel
theorem dX12_services_33 : decode cX12_services 33 = .ok (.bipush 8, 2) := by decide +kernel
theorem dX12_services_35 : decode cX12_services 35 = .ok (.if_icmp .ge 7, 3) := by decide +kernel
theorem dX12_services_38 : decode cX12_services 38 = .ok (.iconst 0, 1) := by decide +kernel
theorem dX12_services_39 : decode cX12_services 39 = .ok (.goto 7, 3) := by decide +kernel
theorem dX12_services_42 : decode cX12_services 42 = .ok (.iload_n 1, 1) := by decide +kernel
theorem dX12_services_43 : decode cX12_services 43 = .ok (.bipush 8, 2) := by decide +kernel
theorem dX12_services_45 : decode cX12_services 45 = .ok (.isub, 1) := by decide +kernel
theorem dX12_services_46 : decode cX12_services 46 = .ok (.istore 4, 2) := by decide +kernel
theorem dX12_services_48 : decode cX12_services 48 = .ok (.iload 4, 2) := by decide +kernel
theorem dX12_services_50 : decode cX12_services 50 = .ok (.iload_n 1, 1) := by decide +kernel
theorem dX12_services_51 : decode cX12_services 51 = .ok (.if_icmp .ge 74, 3) := by decide +kernel
theorem dX12_services_54 : decode cX12_services 54 = .ok (.aload_n 0, 1) := by decide +kernel
theorem dX12_services_55 : decode cX12_services 55 = .ok (.getfield 125, 3) := by decide +kernel
theorem dX12_services_58 : decode cX12_services 58 = .ok (.iload_n 3, 1) := by decide +kernel
theorem dX12_services_59 : decode cX12_services 59 = .ok (.baload, 1) := by decide +kernel
theorem dX12_services_60 : decode cX12_services 60 = .ok (.ifCond .eq 65, 3) := by decide +kernel
theorem dX12_services_63 : decode cX12_services 63 = .ok (.aload_n 0, 1) := by decide +kernel
theorem dX12_services_64 : decode cX12_services 64 = .ok (.getfield 122, 3) := by decide +kernel
theorem dX12_services_67 : decode cX12_services 67 = .ok (.iload_n 3, 1) := by decide +kernel
theorem dX12_services_68 : decode cX12_services 68 = .ok (.baload, 1) := by decide +kernel
theorem dX12_services_69 : decode cX12_services 69 = .ok (.ifCond .ne 56, 3) := by decide +kernel
theorem dX12_services_72 : decode cX12_services 72 = .ok (.sipush 3000, 3) := by decide +kernel
theorem dX12_services_75 : decode cX12_services 75 = .ok (.iload_n 3, 1) := by decide +kernel
theorem dX12_services_76 : decode cX12_services 76 = .ok (.imul, 1) := by decide +kernel
theorem dX12_services_77 : decode cX12_services 77 = .ok (.iload 4, 2) := by decide +kernel
theorem dX12_services_79 : decode cX12_services 79 = .ok (.iadd, 1) := by decide +kernel
theorem dX12_services_80 : decode cX12_services 80 = .ok (.istore 5, 2) := by decide +kernel
theorem dX12_services_82 : decode cX12_services 82 = .ok (.aload_n 0, 1) := by decide +kernel
theorem dX12_services_83 : decode cX12_services 83 = .ok (.getfield 128, 3) := by decide +kernel
theorem dX12_services_86 : decode cX12_services 86 = .ok (.iload 5, 2) := by decide +kernel
theorem dX12_services_88 : decode cX12_services 88 = .ok (.aload_n 0, 1) := by decide +kernel
theorem dX12_services_89 : decode cX12_services 89 = .ok (.getfield 128, 3) := by decide +kernel
theorem dX12_services_92 : decode cX12_services 92 = .ok (.iload 5, 2) := by decide +kernel
theorem dX12_services_94 : decode cX12_services 94 = .ok (.iaload, 1) := by decide +kernel
theorem dX12_services_95 : decode cX12_services 95 = .ok (.iconst 1, 1) := by decide +kernel
theorem dX12_services_96 : decode cX12_services 96 = .ok (.if_icmp .ne 7, 3) := by decide +kernel
theorem dX12_services_99 : decode cX12_services 99 = .ok (.iconst 4, 1) := by decide +kernel
theorem dX12_services_100 : decode cX12_services 100 = .ok (.goto 10, 3) := by decide +kernel
theorem dX12_services_103 : decode cX12_services 103 = .ok (.aload_n 0, 1) := by decide +kernel
theorem dX12_services_104 : decode cX12_services 104 = .ok (.getfield 128, 3) := by decide +kernel
theorem dX12_services_107 : decode cX12_services 107 = .ok (.iload 5, 2) := by decide +kernel
theorem dX12_services_109 : decode cX12_services 109 = .ok (.iaload, 1) := by decide +kernel
theorem dX12_services_110 : decode cX12_services 110 = .ok (.iastore, 1) := by decide +kernel
theorem dX12_services_111 : decode cX12_services 111 = .ok (.aload_n 0, 1) := by decide +kernel
theorem dX12_services_112 : decode cX12_services 112 = .ok (.getfield 143, 3) := by decide +kernel
theorem dX12_services_115 : decode cX12_services 115 = .ok (.iload 5, 2) := by decide +kernel
theorem dX12_services_117 : decode cX12_services 117 = .ok (.iconst 0, 1) := by decide +kernel
theorem dX12_services_118 : decode cX12_services 118 = .ok (.iastore, 1) := by decide +kernel
theorem dX12_services_119 : decode cX12_services 119 = .ok (.iinc 4 1, 3) := by decide +kernel
theorem dX12_services_122 : decode cX12_services 122 = .ok (.goto (-74), 3) := by decide +kernel
theorem dX12_services_125 : decode cX12_services 125 = .ok (.aload_n 0, 1) := by decide +kernel
theorem dX12_services_126 : decode cX12_services 126 = .ok (.getfield 125, 3) := by decide +kernel
theorem dX12_services_129 : decode cX12_services 129 = .ok (.iload_n 3, 1) := by decide +kernel
theorem dX12_services_130 : decode cX12_services 130 = .ok (.aload_n 0, 1) := by decide +kernel
theorem dX12_services_131 : decode cX12_services 131 = .ok (.getfield 122, 3) := by decide +kernel
theorem dX12_services_134 : decode cX12_services 134 = .ok (.iload_n 3, 1) := by decide +kernel
theorem dX12_services_135 : decode cX12_services 135 = .ok (.baload, 1) := by decide +kernel
theorem dX12_services_136 : decode cX12_services 136 = .ok (.bastore, 1) := by decide +kernel
theorem dX12_services_137 : decode cX12_services 137 = .ok (.iinc 3 1, 3) := by decide +kernel
theorem dX12_services_140 : decode cX12_services 140 = .ok (.goto (-136), 3) := by decide +kernel
theorem dX12_services_143 : decode cX12_services 143 = .ok (.aload_n 0, 1) := by decide +kernel
theorem dX12_services_144 : decode cX12_services 144 = .ok (.iload_n 2, 1) := by decide +kernel
theorem dX12_services_145 : decode cX12_services 145 = .ok (.ifCond .eq 15, 3) := by decide +kernel
theorem dX12_services_148 : decode cX12_services 148 = .ok (.aload_n 0, 1) := by decide +kernel
theorem dX12_services_149 : decode cX12_services 149 = .ok (.getfield 364, 3) := by decide +kernel
theorem dX12_services_152 : decode cX12_services 152 = .ok (.iconst 1, 1) := by decide +kernel
theorem dX12_services_153 : decode cX12_services 153 = .ok (.iadd, 1) := by decide +kernel
theorem dX12_services_154 : decode cX12_services 154 = .ok (.bipush 32, 2) := by decide +kernel
theorem dX12_services_156 : decode cX12_services 156 = .ok (.irem, 1) := by decide +kernel
theorem dX12_services_157 : decode cX12_services 157 = .ok (.goto 7, 3) := by decide +kernel
theorem dX12_services_160 : decode cX12_services 160 = .ok (.aload_n 0, 1) := by decide +kernel
theorem dX12_services_161 : decode cX12_services 161 = .ok (.getfield 364, 3) := by decide +kernel
theorem dX12_services_164 : decode cX12_services 164 = .ok (.putfield 364, 3) := by decide +kernel
theorem dX12_services_167 : decode cX12_services 167 = .ok (.return_, 1) := by decide +kernel
theorem dX12_units_0 : decode cX12_units 0 = .ok (.iload_n 1, 1) := by decide +kernel
theorem dX12_units_1 : decode cX12_units 1 = .ok (.iconst 4, 1) := by decide +kernel
theorem dX12_units_2 : decode cX12_units 2 = .ok (.irem, 1) := by decide +kernel
theorem dX12_units_3 : decode cX12_units 3 = .ok (.ifCond .ne 8, 3) := by decide +kernel
theorem dX12_units_6 : decode cX12_units 6 = .ok (.aload_n 0, 1) := by decide +kernel
theorem dX12_units_7 : decode cX12_units 7 = .ok (.iload_n 1, 1) := by decide +kernel
theorem dX12_units_8 : decode cX12_units 8 = .ok (.invokevirtual 367, 3) := by decide +kernel
theorem dX12_units_11 : decode cX12_units 11 = .ok (.iconst 0, 1) := by decide +kernel
theorem dX12_units_12 : decode cX12_units 12 = .ok (.istore_n 2, 1) := by decide +kernel
theorem dX12_units_13 : decode cX12_units 13 = .ok (.iload_n 2, 1) := by decide +kernel
theorem dX12_units_14 : decode cX12_units 14 = .ok (.iconst 3, 1) := by decide +kernel
theorem dX12_units_15 : decode cX12_units 15 = .ok (.if_icmp .ge 52, 3) := by decide +kernel
theorem dX12_units_18 : decode cX12_units 18 = .ok (.iload_n 1, 1) := by decide +kernel
theorem dX12_units_19 : decode cX12_units 19 = .ok (.bipush 8, 2) := by decide +kernel
theorem dX12_units_21 : decode cX12_units 21 = .ok (.if_icmp .lt 46, 3) := by decide +kernel
theorem dX12_units_24 : decode cX12_units 24 = .ok (.sipush 3000, 3) := by decide +kernel
theorem dX12_units_27 : decode cX12_units 27 = .ok (.iload_n 2, 1) := by decide +kernel
theorem dX12_units_28 : decode cX12_units 28 = .ok (.imul, 1) := by decide +kernel
theorem dX12_units_29 : decode cX12_units 29 = .ok (.iload_n 1, 1) := by decide +kernel
theorem dX12_units_30 : decode cX12_units 30 = .ok (.iadd, 1) := by decide +kernel
theorem dX12_units_31 : decode cX12_units 31 = .ok (.bipush 8, 2) := by decide +kernel
theorem dX12_units_33 : decode cX12_units 33 = .ok (.isub, 1) := by decide +kernel
theorem dX12_units_34 : decode cX12_units 34 = .ok (.istore_n 3, 1) := by decide +kernel
theorem dX12_units_35 : decode cX12_units 35 = .ok (.aload_n 0, 1) := by decide +kernel
theorem dX12_units_36 : decode cX12_units 36 = .ok (.getfield 128, 3) := by decide +kernel
theorem dX12_units_39 : decode cX12_units 39 = .ok (.iload_n 3, 1) := by decide +kernel
theorem dX12_units_40 : decode cX12_units 40 = .ok (.aload_n 0, 1) := by decide +kernel
theorem dX12_units_41 : decode cX12_units 41 = .ok (.getfield 128, 3) := by decide +kernel
theorem dX12_units_44 : decode cX12_units 44 = .ok (.iload_n 3, 1) := by decide +kernel
theorem dX12_units_45 : decode cX12_units 45 = .ok (.iaload, 1) := by decide +kernel
theorem dX12_units_46 : decode cX12_units 46 = .ok (.iconst 1, 1) := by decide +kernel
theorem dX12_units_47 : decode cX12_units 47 = .ok (.if_icmp .ne 7, 3) := by decide +kernel
theorem dX12_units_50 : decode cX12_units 50 = .ok (.iconst 3, 1) := by decide +kernel
theorem dX12_units_51 : decode cX12_units 51 = .ok (.goto 9, 3) := by decide +kernel
theorem dX12_units_54 : decode cX12_units 54 = .ok (.aload_n 0, 1) := by decide +kernel
theorem dX12_units_55 : decode cX12_units 55 = .ok (.getfield 128, 3) := by decide +kernel
theorem dX12_units_58 : decode cX12_units 58 = .ok (.iload_n 3, 1) := by decide +kernel
theorem dX12_units_59 : decode cX12_units 59 = .ok (.iaload, 1) := by decide +kernel
theorem dX12_units_60 : decode cX12_units 60 = .ok (.iastore, 1) := by decide +kernel
theorem dX12_units_61 : decode cX12_units 61 = .ok (.iinc 2 1, 3) := by decide +kernel
theorem dX12_units_64 : decode cX12_units 64 = .ok (.goto (-51), 3) := by decide +kernel
theorem dX12_units_67 : decode cX12_units 67 = .ok (.aload_n 0, 1) := by decide +kernel
theorem dX12_units_68 : decode cX12_units 68 = .ok (.getfield 154, 3) := by decide +kernel
theorem dX12_units_71 : decode cX12_units 71 = .ok (.astore_n 2, 1) := by decide +kernel
theorem dX12_units_72 : decode cX12_units 72 = .ok (.iconst 0, 1) := by decide +kernel
theorem dX12_units_73 : decode cX12_units 73 = .ok (.istore_n 3, 1) := by decide +kernel
theorem dX12_units_74 : decode cX12_units 74 = .ok (.iload_n 3, 1) := by decide +kernel
theorem dX12_units_75 : decode cX12_units 75 = .ok (.iconst 3, 1) := by decide +kernel
theorem dX12_units_76 : decode cX12_units 76 = .ok (.if_icmp .ge 173, 3) := by decide +kernel
theorem dX12_units_79 : decode cX12_units 79 = .ok (.sipush 3000, 3) := by decide +kernel
theorem dX12_units_82 : decode cX12_units 82 = .ok (.iload_n 3, 1) := by decide +kernel
theorem dX12_units_83 : decode cX12_units 83 = .ok (.imul, 1) := by decide +kernel
theorem dX12_units_84 : decode cX12_units 84 = .ok (.iload_n 1, 1) := by decide +kernel
theorem dX12_units_85 : decode cX12_units 85 = .ok (.iadd, 1) := by decide +kernel
theorem dX12_units_86 : decode cX12_units 86 = .ok (.istore 4, 2) := by decide +kernel
theorem dX12_units_88 : decode cX12_units 88 = .ok (.aload_n 0, 1) := by decide +kernel
theorem dX12_units_89 : decode cX12_units 89 = .ok (.getfield 137, 3) := by decide +kernel
theorem dX12_units_92 : decode cX12_units 92 = .ok (.iload 4, 2) := by decide +kernel
theorem dX12_units_94 : decode cX12_units 94 = .ok (.iconst (-1), 1) := by decide +kernel
theorem dX12_units_95 : decode cX12_units 95 = .ok (.iastore, 1) := by decide +kernel
theorem dX12_units_96 : decode cX12_units 96 = .ok (.aload_n 0, 1) := by decide +kernel
theorem dX12_units_97 : decode cX12_units 97 = .ok (.getfield 125, 3) := by decide +kernel
theorem dX12_units_100 : decode cX12_units 100 = .ok (.iload_n 3, 1) := by decide +kernel
theorem dX12_units_101 : decode cX12_units 101 = .ok (.baload, 1) := by decide +kernel
theorem dX12_units_102 : decode cX12_units 102 = .ok (.ifCond .eq 141, 3) := by decide +kernel
theorem dX12_units_105 : decode cX12_units 105 = .ok (.iload_n 1, 1) := by decide +kernel
theorem dX12_units_106 : decode cX12_units 106 = .ok (.aload_n 0, 1) := by decide +kernel
theorem dX12_units_107 : decode cX12_units 107 = .ok (.getfield 103, 3) := by decide +kernel
theorem dX12_units_110 : decode cX12_units 110 = .ok (.sipush 3000, 3) := by decide +kernel
theorem dX12_units_113 : decode cX12_units 113 = .ok (.iload_n 3, 1) := by decide +kernel
theorem dX12_units_114 : decode cX12_units 114 = .ok (.imul, 1) := by decide +kernel
theorem dX12_units_115 : decode cX12_units 115 = .ok (.aload_n 0, 1) := by decide +kernel
theorem dX12_units_116 : decode cX12_units 116 = .ok (.getfield 100, 3) := by decide +kernel
theorem dX12_units_119 : decode cX12_units 119 = .ok (.iload_n 3, 1) := by decide +kernel
theorem dX12_units_120 : decode cX12_units 120 = .ok (.iaload, 1) := by decide +kernel
theorem dX12_units_121 : decode cX12_units 121 = .ok (.iadd, 1) := by decide +kernel
theorem dX12_units_122 : decode cX12_units 122 = .ok (.iconst 1, 1) := by decide +kernel
theorem dX12_units_123 : decode cX12_units 123 = .ok (.isub, 1) := by decide +kernel
theorem dX12_units_124 : decode cX12_units 124 = .ok (.iaload, 1) := by decide +kernel
theorem dX12_units_125 : decode cX12_units 125 = .ok (.isub, 1) := by decide +kernel
theorem dX12_units_126 : decode cX12_units 126 = .ok (.istore 5, 2) := by decide +kernel
theorem dX12_units_128 : decode cX12_units 128 = .ok (.aload_n 0, 1) := by decide +kernel
theorem dX12_units_129 : decode cX12_units 129 = .ok (.getfield 128, 3) := by decide +kernel
theorem dX12_units_132 : decode cX12_units 132 = .ok (.iload 4, 2) := by decide +kernel
theorem dX12_units_134 : decode cX12_units 134 = .ok (.iconst 1, 1) := by decide +kernel
theorem dX12_units_135 : decode cX12_units 135 = .ok (.iastore, 1) := by decide +kernel
theorem dX12_units_136 : decode cX12_units 136 = .ok (.aload_n 0, 1) := by decide +kernel
theorem dX12_units_137 : decode cX12_units 137 = .ok (.getfield 134, 3) := by decide +kernel
theorem dX12_units_140 : decode cX12_units 140 = .ok (.iload 4, 2) := by decide +kernel
theorem dX12_units_142 : decode cX12_units 142 = .ok (.iload 5, 2) := by decide +kernel
theorem dX12_units_144 : decode cX12_units 144 = .ok (.ifCond .ne 7, 3) := by decide +kernel
theorem dX12_units_147 : decode cX12_units 147 = .ok (.iconst 2, 1) := by decide +kernel
theorem dX12_units_148 : decode cX12_units 148 = .ok (.goto 28, 3) := by decide +kernel
theorem dX12_units_151 : decode cX12_units 151 = .ok (.iload 5, 2) := by decide +kernel
theorem dX12_units_153 : decode cX12_units 153 = .ok (.bipush 12, 2) := by decide +kernel
theorem dX12_units_155 : decode cX12_units 155 = .ok (.irem, 1) := by decide +kernel
theorem dX12_units_156 : decode cX12_units 156 = .ok (.ifCond .eq 15, 3) := by decide +kernel
theorem dX12_units_159 : decode cX12_units 159 = .ok (.aload_n 0, 1) := by decide +kernel
theorem dX12_units_160 : decode cX12_units 160 = .ok (.getfield 128, 3) := by decide +kernel
theorem dX12_units_163 : decode cX12_units 163 = .ok (.iload 4, 2) := by decide +kernel
theorem dX12_units_165 : decode cX12_units 165 = .ok (.iconst 1, 1) := by decide +kernel
theorem dX12_units_166 : decode cX12_units 166 = .ok (.isub, 1) := by decide +kernel
theorem dX12_units_167 : decode cX12_units 167 = .ok (.iaload, 1) := by decide +kernel
theorem dX12_units_168 : decode cX12_units 168 = .ok (.ifCond .ne 7, 3) := by decide +kernel
theorem dX12_units_171 : decode cX12_units 171 = .ok (.iconst 1, 1) := by decide +kernel
theorem dX12_units_172 : decode cX12_units 172 = .ok (.goto 4, 3) := by decide +kernel
theorem dX12_units_175 : decode cX12_units 175 = .ok (.iconst 0, 1) := by decide +kernel
theorem dX12_units_176 : decode cX12_units 176 = .ok (.iastore, 1) := by decide +kernel
theorem dX12_units_177 : decode cX12_units 177 = .ok (.aload_n 2, 1) := by decide +kernel
theorem dX12_units_178 : decode cX12_units 178 = .ok (.iload_n 3, 1) := by decide +kernel
theorem dX12_units_179 : decode cX12_units 179 = .ok (.aload_n 0, 1) := by decide +kernel
theorem dX12_units_180 : decode cX12_units 180 = .ok (.getfield 88, 3) := by decide +kernel
theorem dX12_units_183 : decode cX12_units 183 = .ok (.iload 4, 2) := by decide +kernel
theorem dX12_units_185 : decode cX12_units 185 = .ok (.iaload, 1) := by decide +kernel
theorem dX12_units_186 : decode cX12_units 186 = .ok (.iconst (-1), 1) := by decide +kernel
theorem dX12_units_187 : decode cX12_units 187 = .ok (.if_icmp .ne 7, 3) := by decide +kernel
theorem dX12_units_190 : decode cX12_units 190 = .ok (.iconst 1, 1) := by decide +kernel
theorem dX12_units_191 : decode cX12_units 191 = .ok (.goto 15, 3) := by decide +kernel
theorem dX12_units_194 : decode cX12_units 194 = .ok (.aload_n 0, 1) := by decide +kernel
theorem dX12_units_195 : decode cX12_units 195 = .ok (.getfield 13, 3) := by decide +kernel
theorem dX12_units_198 : decode cX12_units 198 = .ok (.aload_n 0, 1) := by decide +kernel
theorem dX12_units_199 : decode cX12_units 199 = .ok (.getfield 88, 3) := by decide +kernel
theorem dX12_units_202 : decode cX12_units 202 = .ok (.iload 4, 2) := by decide +kernel
theorem dX12_units_204 : decode cX12_units 204 = .ok (.iaload, 1) := by decide +kernel
theorem dX12_units_205 : decode cX12_units 205 = .ok (.iaload, 1) := by decide +kernel
theorem dX12_units_206 : decode cX12_units 206 = .ok (.aload_n 0, 1) := by decide +kernel
theorem dX12_units_207 : decode cX12_units 207 = .ok (.getfield 134, 3) := by decide +kernel
theorem dX12_units_210 : decode cX12_units 210 = .ok (.iload 4, 2) := by decide +kernel
theorem dX12_units_212 : decode cX12_units 212 = .ok (.iaload, 1) := by decide +kernel
theorem dX12_units_213 : decode cX12_units 213 = .ok (.ifCond .le 7, 3) := by decide +kernel
theorem dX12_units_216 : decode cX12_units 216 = .ok (.iconst 3, 1) := by decide +kernel
theorem dX12_units_217 : decode cX12_units 217 = .ok (.goto 4, 3) := by decide +kernel
theorem dX12_units_220 : decode cX12_units 220 = .ok (.iconst 1, 1) := by decide +kernel
theorem dX12_units_221 : decode cX12_units 221 = .ok (.imul, 1) := by decide +kernel
theorem dX12_units_222 : decode cX12_units 222 = .ok (.aload_n 0, 1) := by decide +kernel
theorem dX12_units_223 : decode cX12_units 223 = .ok (.getfield 112, 3) := by decide +kernel
theorem dX12_units_226 : decode cX12_units 226 = .ok (.iload_n 3, 1) := by decide +kernel
theorem dX12_units_227 : decode cX12_units 227 = .ok (.iaload, 1) := by decide +kernel
theorem dX12_units_228 : decode cX12_units 228 = .ok (.imul, 1) := by decide +kernel
theorem dX12_units_229 : decode cX12_units 229 = .ok (.iastore, 1) := by decide +kernel
theorem dX12_units_230 : decode cX12_units 230 = .ok (.aload_n 0, 1) := by decide +kernel
theorem dX12_units_231 : decode cX12_units 231 = .ok (.getfield 131, 3) := by decide +kernel
theorem dX12_units_234 : decode cX12_units 234 = .ok (.iload 4, 2) := by decide +kernel
theorem dX12_units_236 : decode cX12_units 236 = .ok (.aload_n 0, 1) := by decide +kernel
theorem dX12_units_237 : decode cX12_units 237 = .ok (.getfield 106, 3) := by decide +kernel
theorem dX12_units_240 : decode cX12_units 240 = .ok (.iload_n 3, 1) := by decide +kernel
theorem dX12_units_241 : decode cX12_units 241 = .ok (.iaload, 1) := by decide +kernel
theorem dX12_units_242 : decode cX12_units 242 = .ok (.iastore, 1) := by decide +kernel
theorem dX12_units_243 : decode cX12_units 243 = .ok (.iinc 3 1, 3) := by decide +kernel
theorem dX12_units_246 : decode cX12_units 246 = .ok (.goto (-172), 3) := by decide +kernel
theorem dX12_units_249 : decode cX12_units 249 = .ok (.aload_n 0, 1) := by decide +kernel
theorem dX12_units_250 : decode cX12_units 250 = .ok (.iload_n 1, 1) := by decide +kernel
theorem dX12_units_251 : decode cX12_units 251 = .ok (.aload_n 2, 1) := by decide +kernel
theorem dX12_units_252 : decode cX12_units 252 = .ok (.invokevirtual 371, 3) := by decide +kernel
theorem dX12_units_255 : decode cX12_units 255 = .ok (.iconst 0, 1) := by decide +kernel
theorem dX12_units_256 : decode cX12_units 256 = .ok (.istore_n 3, 1) := by decide +kernel
theorem dX12_units_257 : decode cX12_units 257 = .ok (.iload_n 3, 1) := by decide +kernel
theorem dX12_units_258 : decode cX12_units 258 = .ok (.iconst 3, 1) := by decide +kernel
theorem dX12_units_259 : decode cX12_units 259 = .ok (.if_icmp .ge 24, 3) := by decide +kernel
theorem dX12_units_262 : decode cX12_units 262 = .ok (.aload_n 0, 1) := by decide +kernel
theorem dX12_units_263 : decode cX12_units 263 = .ok (.getfield 125, 3) := by decide +kernel
theorem dX12_units_266 : decode cX12_units 266 = .ok (.iload_n 3, 1) := by decide +kernel
theorem dX12_units_267 : decode cX12_units 267 = .ok (.baload, 1) := by decide +kernel
theorem dX12_units_268 : decode cX12_units 268 = .ok (.ifCond .eq 9, 3) := by decide +kernel
theorem dX12_units_271 : decode cX12_units 271 = .ok (.aload_n 0, 1) := by decide +kernel
theorem dX12_units_272 : decode cX12_units 272 = .ok (.iload_n 3, 1) := by decide +kernel
theorem dX12_units_273 : decode cX12_units 273 = .ok (.iload_n 1, 1) := by decide +kernel
theorem dX12_units_274 : decode cX12_units 274 = .ok (.invokevirtual 375, 3) := by decide +kernel
theorem dX12_units_277 : decode cX12_units 277 = .ok (.iinc 3 1, 3) := by decide +kernel
theorem dX12_units_280 : decode cX12_units 280 = .ok (.goto (-23), 3) := by decide +kernel
theorem dX12_units_283 : decode cX12_units 283 = .ok (.return_, 1) := by decide +kernel
theorem dX12_shares_0 : decode cX12_shares 0 = .ok (.iconst 0, 1) := by decide +kernel
theorem dX12_shares_1 : decode cX12_shares 1 = .ok (.istore_n 3, 1) := by decide +kernel
theorem dX12_shares_2 : decode cX12_shares 2 = .ok (.iconst 0, 1) := by decide +kernel
theorem dX12_shares_3 : decode cX12_shares 3 = .ok (.istore 4, 2) := by decide +kernel
theorem dX12_shares_5 : decode cX12_shares 5 = .ok (.iload 4, 2) := by decide +kernel
theorem dX12_shares_7 : decode cX12_shares 7 = .ok (.iconst 3, 1) := by decide +kernel
theorem dX12_shares_8 : decode cX12_shares 8 = .ok (.if_icmp .ge 39, 3) := by decide +kernel
theorem dX12_shares_11 : decode cX12_shares 11 = .ok (.iload_n 3, 1) := by decide +kernel
theorem dX12_shares_12 : decode cX12_shares 12 = .ok (.aload_n 0, 1) := by decide +kernel
theorem dX12_shares_13 : decode cX12_shares 13 = .ok (.getfield 125, 3) := by decide +kernel
theorem dX12_shares_16 : decode cX12_shares 16 = .ok (.iload 4, 2) := by decide +kernel
theorem dX12_shares_18 : decode cX12_shares 18 = .ok (.baload, 1) := by decide +kernel
theorem dX12_shares_19 : decode cX12_shares 19 = .ok (.ifCond .eq 19, 3) := by decide +kernel
theorem dX12_shares_22 : decode cX12_shares 22 = .ok (.aload_n 0, 1) := by decide +kernel
theorem dX12_shares_23 : decode cX12_shares 23 = .ok (.getfield 131, 3) := by decide +kernel
theorem dX12_shares_26 : decode cX12_shares 26 = .ok (.sipush 3000, 3) := by decide +kernel
theorem dX12_shares_29 : decode cX12_shares 29 = .ok (.iload 4, 2) := by decide +kernel
theorem dX12_shares_31 : decode cX12_shares 31 = .ok (.imul, 1) := by decide +kernel
theorem dX12_shares_32 : decode cX12_shares 32 = .ok (.iload_n 1, 1) := by decide +kernel
theorem dX12_shares_33 : decode cX12_shares 33 = .ok (.iadd, 1) := by decide +kernel
theorem dX12_shares_34 : decode cX12_shares 34 = .ok (.iaload, 1) := by decide +kernel
theorem dX12_shares_35 : decode cX12_shares 35 = .ok (.goto 4, 3) := by decide +kernel
theorem dX12_shares_38 : decode cX12_shares 38 = .ok (.iconst 0, 1) := by decide +kernel
theorem dX12_shares_39 : decode cX12_shares 39 = .ok (.iadd, 1) := by decide +kernel
theorem dX12_shares_40 : decode cX12_shares 40 = .ok (.istore_n 3, 1) := by decide +kernel
theorem dX12_shares_41 : decode cX12_shares 41 = .ok (.iinc 4 1, 3) := by decide +kernel
theorem dX12_shares_44 : decode cX12_shares 44 = .ok (.goto (-39), 3) := by decide +kernel
theorem dX12_shares_47 : decode cX12_shares 47 = .ok (.iconst 1, 1) := by decide +kernel
theorem dX12_shares_48 : decode cX12_shares 48 = .ok (.istore 4, 2) := by decide +kernel
theorem dX12_shares_50 : decode cX12_shares 50 = .ok (.iload 4, 2) := by decide +kernel
theorem dX12_shares_52 : decode cX12_shares 52 = .ok (.ifCond .eq 154, 3) := by decide +kernel
theorem dX12_shares_55 : decode cX12_shares 55 = .ok (.iload_n 3, 1) := by decide +kernel
theorem dX12_shares_56 : decode cX12_shares 56 = .ok (.aload_n 0, 1) := by decide +kernel
theorem dX12_shares_57 : decode cX12_shares 57 = .ok (.getfield 118, 3) := by decide +kernel
theorem dX12_shares_60 : decode cX12_shares 60 = .ok (.if_icmp .ge 146, 3) := by decide +kernel
theorem dX12_shares_63 : decode cX12_shares 63 = .ok (.iconst (-1), 1) := by decide +kernel
theorem dX12_shares_64 : decode cX12_shares 64 = .ok (.istore 5, 2) := by decide +kernel
theorem dX12_shares_66 : decode cX12_shares 66 = .ok (.iconst 0, 1) := by decide +kernel
theorem dX12_shares_67 : decode cX12_shares 67 = .ok (.istore 6, 2) := by decide +kernel
theorem dX12_shares_69 : decode cX12_shares 69 = .ok (.iload 6, 2) := by decide +kernel
theorem dX12_shares_71 : decode cX12_shares 71 = .ok (.iconst 3, 1) := by decide +kernel
theorem dX12_shares_72 : decode cX12_shares 72 = .ok (.if_icmp .ge 93, 3) := by decide +kernel
theorem dX12_shares_75 : decode cX12_shares 75 = .ok (.aload_n 0, 1) := by decide +kernel
theorem dX12_shares_76 : decode cX12_shares 76 = .ok (.getfield 131, 3) := by decide +kernel
theorem dX12_shares_79 : decode cX12_shares 79 = .ok (.sipush 3000, 3) := by decide +kernel
theorem dX12_shares_82 : decode cX12_shares 82 = .ok (.iload 6, 2) := by decide +kernel
theorem dX12_shares_84 : decode cX12_shares 84 = .ok (.imul, 1) := by decide +kernel
theorem dX12_shares_85 : decode cX12_shares 85 = .ok (.iload_n 1, 1) := by decide +kernel
theorem dX12_shares_86 : decode cX12_shares 86 = .ok (.iadd, 1) := by decide +kernel
theorem dX12_shares_87 : decode cX12_shares 87 = .ok (.iaload, 1) := by decide +kernel
theorem dX12_shares_88 : decode cX12_shares 88 = .ok (.istore 7, 2) := by decide +kernel
theorem dX12_shares_90 : decode cX12_shares 90 = .ok (.aload_n 0, 1) := by decide +kernel
theorem dX12_shares_91 : decode cX12_shares 91 = .ok (.getfield 125, 3) := by decide +kernel
theorem dX12_shares_94 : decode cX12_shares 94 = .ok (.iload 6, 2) := by decide +kernel
theorem dX12_shares_96 : decode cX12_shares 96 = .ok (.baload, 1) := by decide +kernel
theorem dX12_shares_97 : decode cX12_shares 97 = .ok (.ifCond .eq 62, 3) := by decide +kernel
theorem dX12_shares_100 : decode cX12_shares 100 = .ok (.iload 7, 2) := by decide +kernel
theorem dX12_shares_102 : decode cX12_shares 102 = .ok (.aload_n 0, 1) := by decide +kernel
theorem dX12_shares_103 : decode cX12_shares 103 = .ok (.getfield 109, 3) := by decide +kernel
theorem dX12_shares_106 : decode cX12_shares 106 = .ok (.iload 6, 2) := by decide +kernel
theorem dX12_shares_108 : decode cX12_shares 108 = .ok (.iaload, 1) := by decide +kernel
theorem dX12_shares_109 : decode cX12_shares 109 = .ok (.if_icmp .ge 50, 3) := by decide +kernel
theorem dX12_shares_112 : decode cX12_shares 112 = .ok (.iload 5, 2) := by decide +kernel
theorem dX12_shares_114 : decode cX12_shares 114 = .ok (.iconst (-1), 1) := by decide +kernel
theorem dX12_shares_115 : decode cX12_shares 115 = .ok (.if_icmp .eq 40, 3) := by decide +kernel
theorem dX12_shares_118 : decode cX12_shares 118 = .ok (.iload 7, 2) := by decide +kernel
theorem dX12_shares_120 : decode cX12_shares 120 = .ok (.iconst 1, 1) := by decide +kernel
theorem dX12_shares_121 : decode cX12_shares 121 = .ok (.iadd, 1) := by decide +kernel
theorem dX12_shares_122 : decode cX12_shares 122 = .ok (.i2l, 1) := by decide +kernel
theorem dX12_shares_123 : decode cX12_shares 123 = .ok (.aload_n 2, 1) := by decide +kernel
theorem dX12_shares_124 : decode cX12_shares 124 = .ok (.iload 5, 2) := by decide +kernel
theorem dX12_shares_126 : decode cX12_shares 126 = .ok (.iaload, 1) := by decide +kernel
theorem dX12_shares_127 : decode cX12_shares 127 = .ok (.i2l, 1) := by decide +kernel
theorem dX12_shares_128 : decode cX12_shares 128 = .ok (.lmul, 1) := by decide +kernel
theorem dX12_shares_129 : decode cX12_shares 129 = .ok (.aload_n 0, 1) := by decide +kernel
theorem dX12_shares_130 : decode cX12_shares 130 = .ok (.getfield 131, 3) := by decide +kernel
theorem dX12_shares_133 : decode cX12_shares 133 = .ok (.sipush 3000, 3) := by decide +kernel
theorem dX12_shares_136 : decode cX12_shares 136 = .ok (.iload 5, 2) := by decide +kernel
theorem dX12_shares_138 : decode cX12_shares 138 = .ok (.imul, 1) := by decide +kernel
theorem dX12_shares_139 : decode cX12_shares 139 = .ok (.iload_n 1, 1) := by decide +kernel
theorem dX12_shares_140 : decode cX12_shares 140 = .ok (.iadd, 1) := by decide +kernel
theorem dX12_shares_141 : decode cX12_shares 141 = .ok (.iaload, 1) := by decide +kernel
theorem dX12_shares_142 : decode cX12_shares 142 = .ok (.iconst 1, 1) := by decide +kernel
theorem dX12_shares_143 : decode cX12_shares 143 = .ok (.iadd, 1) := by decide +kernel
theorem dX12_shares_144 : decode cX12_shares 144 = .ok (.i2l, 1) := by decide +kernel
theorem dX12_shares_145 : decode cX12_shares 145 = .ok (.aload_n 2, 1) := by decide +kernel
theorem dX12_shares_146 : decode cX12_shares 146 = .ok (.iload 6, 2) := by decide +kernel
theorem dX12_shares_148 : decode cX12_shares 148 = .ok (.iaload, 1) := by decide +kernel
theorem dX12_shares_149 : decode cX12_shares 149 = .ok (.i2l, 1) := by decide +kernel
theorem dX12_shares_150 : decode cX12_shares 150 = .ok (.lmul, 1) := by decide +kernel
theorem dX12_shares_151 : decode cX12_shares 151 = .ok (.lcmp, 1) := by decide +kernel
theorem dX12_shares_152 : decode cX12_shares 152 = .ok (.ifCond .ge 7, 3) := by decide +kernel
theorem dX12_shares_155 : decode cX12_shares 155 = .ok (.iload 6, 2) := by decide +kernel
theorem dX12_shares_157 : decode cX12_shares 157 = .ok (.istore 5, 2) := by decide +kernel
theorem dX12_shares_159 : decode cX12_shares 159 = .ok (.iinc 6 1, 3) := by decide +kernel
theorem dX12_shares_162 : decode cX12_shares 162 = .ok (.goto (-93), 3) := by decide +kernel
theorem dX12_shares_165 : decode cX12_shares 165 = .ok (.iload 5, 2) := by decide +kernel
theorem dX12_shares_167 : decode cX12_shares 167 = .ok (.iconst (-1), 1) := by decide +kernel
theorem dX12_shares_168 : decode cX12_shares 168 = .ok (.if_icmp .eq 7, 3) := by decide +kernel
theorem dX12_shares_171 : decode cX12_shares 171 = .ok (.iconst 1, 1) := by decide +kernel
theorem dX12_shares_172 : decode cX12_shares 172 = .ok (.goto 4, 3) := by decide +kernel
theorem dX12_shares_175 : decode cX12_shares 175 = .ok (.iconst 0, 1) := by decide +kernel
theorem dX12_shares_176 : decode cX12_shares 176 = .ok (.istore 4, 2) := by decide +kernel
theorem dX12_shares_178 : decode cX12_shares 178 = .ok (.iload 4, 2) := by decide +kernel
theorem dX12_shares_180 : decode cX12_shares 180 = .ok (.ifCond .eq 23, 3) := by decide +kernel
theorem dX12_shares_183 : decode cX12_shares 183 = .ok (.aload_n 0, 1) := by decide +kernel
theorem dX12_shares_184 : decode cX12_shares 184 = .ok (.getfield 131, 3) := by decide +kernel
theorem dX12_shares_187 : decode cX12_shares 187 = .ok (.sipush 3000, 3) := by decide +kernel
theorem dX12_shares_190 : decode cX12_shares 190 = .ok (.iload 5, 2) := by decide +kernel
theorem dX12_shares_192 : decode cX12_shares 192 = .ok (.imul, 1) := by decide +kernel
theorem dX12_shares_193 : decode cX12_shares 193 = .ok (.iload_n 1, 1) := by decide +kernel
theorem dX12_shares_194 : decode cX12_shares 194 = .ok (.iadd, 1) := by decide +kernel
theorem dX12_shares_195 : decode cX12_shares 195 = .ok (.dup2, 1) := by decide +kernel
theorem dX12_shares_196 : decode cX12_shares 196 = .ok (.iaload, 1) := by decide +kernel
theorem dX12_shares_197 : decode cX12_shares 197 = .ok (.iconst 1, 1) := by decide +kernel
theorem dX12_shares_198 : decode cX12_shares 198 = .ok (.iadd, 1) := by decide +kernel
theorem dX12_shares_199 : decode cX12_shares 199 = .ok (.iastore, 1) := by decide +kernel
theorem dX12_shares_200 : decode cX12_shares 200 = .ok (.iinc 3 1, 3) := by decide +kernel
theorem dX12_shares_203 : decode cX12_shares 203 = .ok (.goto (-153), 3) := by decide +kernel
theorem dX12_shares_206 : decode cX12_shares 206 = .ok (.return_, 1) := by decide +kernel
theorem dX12_four_0 : decode cX12_four 0 = .ok (.iconst 0, 1) := by decide +kernel
theorem dX12_four_1 : decode cX12_four 1 = .ok (.istore 4, 2) := by decide +kernel
theorem dX12_four_3 : decode cX12_four 3 = .ok (.iload 4, 2) := by decide +kernel
theorem dX12_four_5 : decode cX12_four 5 = .ok (.iconst 4, 1) := by decide +kernel
theorem dX12_four_6 : decode cX12_four 6 = .ok (.if_icmp .ge 26, 3) := by decide +kernel
theorem dX12_four_9 : decode cX12_four 9 = .ok (.aload_n 1, 1) := by decide +kernel
theorem dX12_four_10 : decode cX12_four 10 = .ok (.iload_n 2, 1) := by decide +kernel
theorem dX12_four_11 : decode cX12_four 11 = .ok (.iload 4, 2) := by decide +kernel
theorem dX12_four_13 : decode cX12_four 13 = .ok (.iadd, 1) := by decide +kernel
theorem dX12_four_14 : decode cX12_four 14 = .ok (.iload_n 3, 1) := by decide +kernel
theorem dX12_four_15 : decode cX12_four 15 = .ok (.bipush 24, 2) := by decide +kernel
theorem dX12_four_17 : decode cX12_four 17 = .ok (.bipush 8, 2) := by decide +kernel
theorem dX12_four_19 : decode cX12_four 19 = .ok (.iload 4, 2) := by decide +kernel
theorem dX12_four_21 : decode cX12_four 21 = .ok (.imul, 1) := by decide +kernel
theorem dX12_four_22 : decode cX12_four 22 = .ok (.isub, 1) := by decide +kernel
theorem dX12_four_23 : decode cX12_four 23 = .ok (.ishr, 1) := by decide +kernel
theorem dX12_four_24 : decode cX12_four 24 = .ok (.i2b, 1) := by decide +kernel
theorem dX12_four_25 : decode cX12_four 25 = .ok (.bastore, 1) := by decide +kernel
theorem dX12_four_26 : decode cX12_four 26 = .ok (.iinc 4 1, 3) := by decide +kernel
theorem dX12_four_29 : decode cX12_four 29 = .ok (.goto (-26), 3) := by decide +kernel
theorem dX12_four_32 : decode cX12_four 32 = .ok (.return_, 1) := by decide +kernel
theorem dX12_two_0 : decode cX12_two 0 = .ok (.aload_n 1, 1) := by decide +kernel
theorem dX12_two_1 : decode cX12_two 1 = .ok (.iload_n 2, 1) := by decide +kernel
theorem dX12_two_2 : decode cX12_two 2 = .ok (.iload_n 3, 1) := by decide +kernel
theorem dX12_two_3 : decode cX12_two 3 = .ok (.bipush 8, 2) := by decide +kernel
theorem dX12_two_5 : decode cX12_two 5 = .ok (.ishr, 1) := by decide +kernel
theorem dX12_two_6 : decode cX12_two 6 = .ok (.i2b, 1) := by decide +kernel
theorem dX12_two_7 : decode cX12_two 7 = .ok (.bastore, 1) := by decide +kernel
theorem dX12_two_8 : decode cX12_two 8 = .ok (.aload_n 1, 1) := by decide +kernel
theorem dX12_two_9 : decode cX12_two 9 = .ok (.iload_n 2, 1) := by decide +kernel
theorem dX12_two_10 : decode cX12_two 10 = .ok (.iconst 1, 1) := by decide +kernel
theorem dX12_two_11 : decode cX12_two 11 = .ok (.iadd, 1) := by decide +kernel
theorem dX12_two_12 : decode cX12_two 12 = .ok (.iload_n 3, 1) := by decide +kernel
theorem dX12_two_13 : decode cX12_two 13 = .ok (.i2b, 1) := by decide +kernel
theorem dX12_two_14 : decode cX12_two 14 = .ok (.bastore, 1) := by decide +kernel
theorem dX12_two_15 : decode cX12_two 15 = .ok (.return_, 1) := by decide +kernel
theorem dX12_writes_0 : decode cX12_writes 0 = .ok (.sipush 3000, 3) := by decide +kernel
theorem dX12_writes_3 : decode cX12_writes 3 = .ok (.iload_n 1, 1) := by decide +kernel
theorem dX12_writes_4 : decode cX12_writes 4 = .ok (.imul, 1) := by decide +kernel
theorem dX12_writes_5 : decode cX12_writes 5 = .ok (.iload_n 2, 1) := by decide +kernel
theorem dX12_writes_6 : decode cX12_writes 6 = .ok (.iadd, 1) := by decide +kernel
theorem dX12_writes_7 : decode cX12_writes 7 = .ok (.istore_n 3, 1) := by decide +kernel
theorem dX12_writes_8 : decode cX12_writes 8 = .ok (.bipush 9, 2) := by decide +kernel
theorem dX12_writes_10 : decode cX12_writes 10 = .ok (.iload_n 1, 1) := by decide +kernel
theorem dX12_writes_11 : decode cX12_writes 11 = .ok (.imul, 1) := by decide +kernel
theorem dX12_writes_12 : decode cX12_writes 12 = .ok (.iload_n 2, 1) := by decide +kernel
theorem dX12_writes_13 : decode cX12_writes 13 = .ok (.bipush 9, 2) := by decide +kernel
theorem dX12_writes_15 : decode cX12_writes 15 = .ok (.irem, 1) := by decide +kernel
theorem dX12_writes_16 : decode cX12_writes 16 = .ok (.iadd, 1) := by decide +kernel
theorem dX12_writes_17 : decode cX12_writes 17 = .ok (.sipush 3014, 3) := by decide +kernel
theorem dX12_writes_20 : decode cX12_writes 20 = .ok (.imul, 1) := by decide +kernel
theorem dX12_writes_21 : decode cX12_writes 21 = .ok (.istore 4, 2) := by decide +kernel
theorem dX12_writes_23 : decode cX12_writes 23 = .ok (.aload_n 0, 1) := by decide +kernel
theorem dX12_writes_24 : decode cX12_writes 24 = .ok (.getfield 131, 3) := by decide +kernel
theorem dX12_writes_27 : decode cX12_writes 27 = .ok (.iload_n 3, 1) := by decide +kernel
theorem dX12_writes_28 : decode cX12_writes 28 = .ok (.iaload, 1) := by decide +kernel
theorem dX12_writes_29 : decode cX12_writes 29 = .ok (.istore 5, 2) := by decide +kernel
theorem dX12_writes_31 : decode cX12_writes 31 = .ok (.aload_n 0, 1) := by decide +kernel
theorem dX12_writes_32 : decode cX12_writes 32 = .ok (.aload_n 0, 1) := by decide +kernel
theorem dX12_writes_33 : decode cX12_writes 33 = .ok (.getfield 147, 3) := by decide +kernel
theorem dX12_writes_36 : decode cX12_writes 36 = .ok (.iload 4, 2) := by decide +kernel
theorem dX12_writes_38 : decode cX12_writes 38 = .ok (.sipush 480, 3) := by decide +kernel
theorem dX12_writes_41 : decode cX12_writes 41 = .ok (.invokevirtual 378, 3) := by decide +kernel
theorem dX12_writes_44 : decode cX12_writes 44 = .ok (.aload_n 0, 1) := by decide +kernel
theorem dX12_writes_45 : decode cX12_writes 45 = .ok (.aload_n 0, 1) := by decide +kernel
theorem dX12_writes_46 : decode cX12_writes 46 = .ok (.getfield 147, 3) := by decide +kernel
theorem dX12_writes_49 : decode cX12_writes 49 = .ok (.iload 4, 2) := by decide +kernel
theorem dX12_writes_51 : decode cX12_writes 51 = .ok (.iconst 4, 1) := by decide +kernel
theorem dX12_writes_52 : decode cX12_writes 52 = .ok (.iadd, 1) := by decide +kernel
theorem dX12_writes_53 : decode cX12_writes 53 = .ok (.bipush 8, 2) := by decide +kernel
theorem dX12_writes_55 : decode cX12_writes 55 = .ok (.iload 5, 2) := by decide +kernel
theorem dX12_writes_57 : decode cX12_writes 57 = .ok (.iadd, 1) := by decide +kernel
theorem dX12_writes_58 : decode cX12_writes 58 = .ok (.invokevirtual 382, 3) := by decide +kernel
theorem dX12_writes_61 : decode cX12_writes 61 = .ok (.aload_n 0, 1) := by decide +kernel
theorem dX12_writes_62 : decode cX12_writes 62 = .ok (.getfield 147, 3) := by decide +kernel
theorem dX12_writes_65 : decode cX12_writes 65 = .ok (.iload 4, 2) := by decide +kernel
theorem dX12_writes_67 : decode cX12_writes 67 = .ok (.bipush 6, 2) := by decide +kernel
theorem dX12_writes_69 : decode cX12_writes 69 = .ok (.iadd, 1) := by decide +kernel
theorem dX12_writes_70 : decode cX12_writes 70 = .ok (.bipush (-128), 2) := by decide +kernel
theorem dX12_writes_72 : decode cX12_writes 72 = .ok (.bastore, 1) := by decide +kernel
theorem dX12_writes_73 : decode cX12_writes 73 = .ok (.aload_n 0, 1) := by decide +kernel
theorem dX12_writes_74 : decode cX12_writes 74 = .ok (.getfield 147, 3) := by decide +kernel
theorem dX12_writes_77 : decode cX12_writes 77 = .ok (.iload 4, 2) := by decide +kernel
theorem dX12_writes_79 : decode cX12_writes 79 = .ok (.bipush 7, 2) := by decide +kernel
theorem dX12_writes_81 : decode cX12_writes 81 = .ok (.iadd, 1) := by decide +kernel
theorem dX12_writes_82 : decode cX12_writes 82 = .ok (.bipush (-128), 2) := by decide +kernel
theorem dX12_writes_84 : decode cX12_writes 84 = .ok (.bastore, 1) := by decide +kernel
theorem dX12_writes_85 : decode cX12_writes 85 = .ok (.aload_n 0, 1) := by decide +kernel
theorem dX12_writes_86 : decode cX12_writes 86 = .ok (.getfield 147, 3) := by decide +kernel
theorem dX12_writes_89 : decode cX12_writes 89 = .ok (.iload 4, 2) := by decide +kernel
theorem dX12_writes_91 : decode cX12_writes 91 = .ok (.bipush 8, 2) := by decide +kernel
theorem dX12_writes_93 : decode cX12_writes 93 = .ok (.iadd, 1) := by decide +kernel
theorem dX12_writes_94 : decode cX12_writes 94 = .ok (.iconst 5, 1) := by decide +kernel
theorem dX12_writes_95 : decode cX12_writes 95 = .ok (.bastore, 1) := by decide +kernel
theorem dX12_writes_96 : decode cX12_writes 96 = .ok (.aload_n 0, 1) := by decide +kernel
theorem dX12_writes_97 : decode cX12_writes 97 = .ok (.getfield 282, 3) := by decide +kernel
theorem dX12_writes_100 : decode cX12_writes 100 = .ok (.ldc2_w 385, 3) := by decide +kernel
theorem dX12_writes_103 : decode cX12_writes 103 = .ok (.iload_n 2, 1) := by decide +kernel
theorem dX12_writes_104 : decode cX12_writes 104 = .ok (.bipush 8, 2) := by decide +kernel
theorem dX12_writes_106 : decode cX12_writes 106 = .ok (.iadd, 1) := by decide +kernel
theorem dX12_writes_107 : decode cX12_writes 107 = .ok (.i2l, 1) := by decide +kernel
theorem dX12_writes_108 : decode cX12_writes 108 = .ok (.lmul, 1) := by decide +kernel
theorem dX12_writes_109 : decode cX12_writes 109 = .ok (.ladd, 1) := by decide +kernel
theorem dX12_writes_110 : decode cX12_writes 110 = .ok (.ldc2_w 387, 3) := by decide +kernel
theorem dX12_writes_113 : decode cX12_writes 113 = .ok (.land, 1) := by decide +kernel
theorem dX12_writes_114 : decode cX12_writes 114 = .ok (.lstore 6, 2) := by decide +kernel
theorem dX12_writes_116 : decode cX12_writes 116 = .ok (.aload_n 0, 1) := by decide +kernel
theorem dX12_writes_117 : decode cX12_writes 117 = .ok (.getfield 147, 3) := by decide +kernel
theorem dX12_writes_120 : decode cX12_writes 120 = .ok (.iload 4, 2) := by decide +kernel
theorem dX12_writes_122 : decode cX12_writes 122 = .ok (.bipush 9, 2) := by decide +kernel
theorem dX12_writes_124 : decode cX12_writes 124 = .ok (.iadd, 1) := by decide +kernel
theorem dX12_writes_125 : decode cX12_writes 125 = .ok (.ldc2_w 389, 3) := by decide +kernel
theorem dX12_writes_128 : decode cX12_writes 128 = .ok (.ldc2_w 278, 3) := by decide +kernel
theorem dX12_writes_131 : decode cX12_writes 131 = .ok (.lload 6, 2) := by decide +kernel
theorem dX12_writes_133 : decode cX12_writes 133 = .ok (.bipush 30, 2) := by decide +kernel
theorem dX12_writes_135 : decode cX12_writes 135 = .ok (.lshr, 1) := by decide +kernel
theorem dX12_writes_136 : decode cX12_writes 136 = .ok (.lmul, 1) := by decide +kernel
theorem dX12_writes_137 : decode cX12_writes 137 = .ok (.ladd, 1) := by decide +kernel
theorem dX12_writes_138 : decode cX12_writes 138 = .ok (.l2i, 1) := by decide +kernel
theorem dX12_writes_139 : decode cX12_writes 139 = .ok (.i2b, 1) := by decide +kernel
theorem dX12_writes_140 : decode cX12_writes 140 = .ok (.bastore, 1) := by decide +kernel
theorem dX12_writes_141 : decode cX12_writes 141 = .ok (.aload_n 0, 1) := by decide +kernel
theorem dX12_writes_142 : decode cX12_writes 142 = .ok (.getfield 147, 3) := by decide +kernel
theorem dX12_writes_145 : decode cX12_writes 145 = .ok (.iload 4, 2) := by decide +kernel
theorem dX12_writes_147 : decode cX12_writes 147 = .ok (.bipush 10, 2) := by decide +kernel
theorem dX12_writes_149 : decode cX12_writes 149 = .ok (.iadd, 1) := by decide +kernel
theorem dX12_writes_150 : decode cX12_writes 150 = .ok (.lload 6, 2) := by decide +kernel
theorem dX12_writes_152 : decode cX12_writes 152 = .ok (.bipush 22, 2) := by decide +kernel
theorem dX12_writes_154 : decode cX12_writes 154 = .ok (.lshr, 1) := by decide +kernel
theorem dX12_writes_155 : decode cX12_writes 155 = .ok (.l2i, 1) := by decide +kernel
theorem dX12_writes_156 : decode cX12_writes 156 = .ok (.i2b, 1) := by decide +kernel
theorem dX12_writes_157 : decode cX12_writes 157 = .ok (.bastore, 1) := by decide +kernel
theorem dX12_writes_158 : decode cX12_writes 158 = .ok (.aload_n 0, 1) := by decide +kernel
theorem dX12_writes_159 : decode cX12_writes 159 = .ok (.getfield 147, 3) := by decide +kernel
theorem dX12_writes_162 : decode cX12_writes 162 = .ok (.iload 4, 2) := by decide +kernel
theorem dX12_writes_164 : decode cX12_writes 164 = .ok (.bipush 11, 2) := by decide +kernel
theorem dX12_writes_166 : decode cX12_writes 166 = .ok (.iadd, 1) := by decide +kernel
theorem dX12_writes_167 : decode cX12_writes 167 = .ok (.lconst 1, 1) := by decide +kernel
theorem dX12_writes_168 : decode cX12_writes 168 = .ok (.ldc2_w 278, 3) := by decide +kernel
theorem dX12_writes_171 : decode cX12_writes 171 = .ok (.lload 6, 2) := by decide +kernel
theorem dX12_writes_173 : decode cX12_writes 173 = .ok (.bipush 15, 2) := by decide +kernel
theorem dX12_writes_175 : decode cX12_writes 175 = .ok (.lshr, 1) := by decide +kernel
theorem dX12_writes_176 : decode cX12_writes 176 = .ok (.ldc2_w 391, 3) := by decide +kernel
theorem dX12_writes_179 : decode cX12_writes 179 = .ok (.land, 1) := by decide +kernel
theorem dX12_writes_180 : decode cX12_writes 180 = .ok (.lmul, 1) := by decide +kernel
theorem dX12_writes_181 : decode cX12_writes 181 = .ok (.ladd, 1) := by decide +kernel
theorem dX12_writes_182 : decode cX12_writes 182 = .ok (.l2i, 1) := by decide +kernel
theorem dX12_writes_183 : decode cX12_writes 183 = .ok (.i2b, 1) := by decide +kernel
theorem dX12_writes_184 : decode cX12_writes 184 = .ok (.bastore, 1) := by decide +kernel
theorem dX12_writes_185 : decode cX12_writes 185 = .ok (.aload_n 0, 1) := by decide +kernel
theorem dX12_writes_186 : decode cX12_writes 186 = .ok (.getfield 147, 3) := by decide +kernel
theorem dX12_writes_189 : decode cX12_writes 189 = .ok (.iload 4, 2) := by decide +kernel
theorem dX12_writes_191 : decode cX12_writes 191 = .ok (.bipush 12, 2) := by decide +kernel
theorem dX12_writes_193 : decode cX12_writes 193 = .ok (.iadd, 1) := by decide +kernel
theorem dX12_writes_194 : decode cX12_writes 194 = .ok (.lload 6, 2) := by decide +kernel
theorem dX12_writes_196 : decode cX12_writes 196 = .ok (.bipush 7, 2) := by decide +kernel
theorem dX12_writes_198 : decode cX12_writes 198 = .ok (.lshr, 1) := by decide +kernel
theorem dX12_writes_199 : decode cX12_writes 199 = .ok (.l2i, 1) := by decide +kernel
theorem dX12_writes_200 : decode cX12_writes 200 = .ok (.i2b, 1) := by decide +kernel
theorem dX12_writes_201 : decode cX12_writes 201 = .ok (.bastore, 1) := by decide +kernel
theorem dX12_writes_202 : decode cX12_writes 202 = .ok (.aload_n 0, 1) := by decide +kernel
theorem dX12_writes_203 : decode cX12_writes 203 = .ok (.getfield 147, 3) := by decide +kernel
theorem dX12_writes_206 : decode cX12_writes 206 = .ok (.iload 4, 2) := by decide +kernel
theorem dX12_writes_208 : decode cX12_writes 208 = .ok (.bipush 13, 2) := by decide +kernel
theorem dX12_writes_210 : decode cX12_writes 210 = .ok (.iadd, 1) := by decide +kernel
theorem dX12_writes_211 : decode cX12_writes 211 = .ok (.lconst 1, 1) := by decide +kernel
theorem dX12_writes_212 : decode cX12_writes 212 = .ok (.ldc2_w 278, 3) := by decide +kernel
theorem dX12_writes_215 : decode cX12_writes 215 = .ok (.lload 6, 2) := by decide +kernel
theorem dX12_writes_217 : decode cX12_writes 217 = .ok (.ldc2_w 391, 3) := by decide +kernel
theorem dX12_writes_220 : decode cX12_writes 220 = .ok (.land, 1) := by decide +kernel
theorem dX12_writes_221 : decode cX12_writes 221 = .ok (.lmul, 1) := by decide +kernel
theorem dX12_writes_222 : decode cX12_writes 222 = .ok (.ladd, 1) := by decide +kernel
theorem dX12_writes_223 : decode cX12_writes 223 = .ok (.l2i, 1) := by decide +kernel
theorem dX12_writes_224 : decode cX12_writes 224 = .ok (.i2b, 1) := by decide +kernel
theorem dX12_writes_225 : decode cX12_writes 225 = .ok (.bastore, 1) := by decide +kernel
theorem dX12_writes_226 : decode cX12_writes 226 = .ok (.iload 4, 2) := by decide +kernel
theorem dX12_writes_228 : decode cX12_writes 228 = .ok (.bipush 14, 2) := by decide +kernel
theorem dX12_writes_230 : decode cX12_writes 230 = .ok (.iadd, 1) := by decide +kernel
theorem dX12_writes_231 : decode cX12_writes 231 = .ok (.istore 8, 2) := by decide +kernel
theorem dX12_writes_233 : decode cX12_writes 233 = .ok (.aload_n 0, 1) := by decide +kernel
theorem dX12_writes_234 : decode cX12_writes 234 = .ok (.aload_n 0, 1) := by decide +kernel
theorem dX12_writes_235 : decode cX12_writes 235 = .ok (.getfield 147, 3) := by decide +kernel
theorem dX12_writes_238 : decode cX12_writes 238 = .ok (.iload 8, 2) := by decide +kernel
theorem dX12_writes_240 : decode cX12_writes 240 = .ok (.iconst 4, 1) := by decide +kernel
theorem dX12_writes_241 : decode cX12_writes 241 = .ok (.iadd, 1) := by decide +kernel
theorem dX12_writes_242 : decode cX12_writes 242 = .ok (.iload_n 2, 1) := by decide +kernel
theorem dX12_writes_243 : decode cX12_writes 243 = .ok (.invokevirtual 382, 3) := by decide +kernel
theorem dX12_writes_246 : decode cX12_writes 246 = .ok (.aload_n 0, 1) := by decide +kernel
theorem dX12_writes_247 : decode cX12_writes 247 = .ok (.getfield 147, 3) := by decide +kernel
theorem dX12_writes_250 : decode cX12_writes 250 = .ok (.iload 8, 2) := by decide +kernel
theorem dX12_writes_252 : decode cX12_writes 252 = .ok (.bipush 6, 2) := by decide +kernel
theorem dX12_writes_254 : decode cX12_writes 254 = .ok (.iadd, 1) := by decide +kernel
theorem dX12_writes_255 : decode cX12_writes 255 = .ok (.iconst 1, 1) := by decide +kernel
theorem dX12_writes_256 : decode cX12_writes 256 = .ok (.aload_n 0, 1) := by decide +kernel
theorem dX12_writes_257 : decode cX12_writes 257 = .ok (.getfield 88, 3) := by decide +kernel
theorem dX12_writes_260 : decode cX12_writes 260 = .ok (.iload_n 3, 1) := by decide +kernel
theorem dX12_writes_261 : decode cX12_writes 261 = .ok (.iaload, 1) := by decide +kernel
theorem dX12_writes_262 : decode cX12_writes 262 = .ok (.iadd, 1) := by decide +kernel
theorem dX12_writes_263 : decode cX12_writes 263 = .ok (.i2b, 1) := by decide +kernel
theorem dX12_writes_264 : decode cX12_writes 264 = .ok (.bastore, 1) := by decide +kernel
theorem dX12_writes_265 : decode cX12_writes 265 = .ok (.aload_n 0, 1) := by decide +kernel
theorem dX12_writes_266 : decode cX12_writes 266 = .ok (.aload_n 0, 1) := by decide +kernel
theorem dX12_writes_267 : decode cX12_writes 267 = .ok (.getfield 147, 3) := by decide +kernel
theorem dX12_writes_270 : decode cX12_writes 270 = .ok (.iload 8, 2) := by decide +kernel
theorem dX12_writes_272 : decode cX12_writes 272 = .ok (.bipush 7, 2) := by decide +kernel
theorem dX12_writes_274 : decode cX12_writes 274 = .ok (.iadd, 1) := by decide +kernel
theorem dX12_writes_275 : decode cX12_writes 275 = .ok (.aload_n 0, 1) := by decide +kernel
theorem dX12_writes_276 : decode cX12_writes 276 = .ok (.getfield 82, 3) := by decide +kernel
theorem dX12_writes_279 : decode cX12_writes 279 = .ok (.iload_n 3, 1) := by decide +kernel
theorem dX12_writes_280 : decode cX12_writes 280 = .ok (.iaload, 1) := by decide +kernel
theorem dX12_writes_281 : decode cX12_writes 281 = .ok (.ifCond .ne 7, 3) := by decide +kernel
theorem dX12_writes_284 : decode cX12_writes 284 = .ok (.iconst 0, 1) := by decide +kernel
theorem dX12_writes_285 : decode cX12_writes 285 = .ok (.goto 9, 3) := by decide +kernel
theorem dX12_writes_288 : decode cX12_writes 288 = .ok (.aload_n 0, 1) := by decide +kernel
theorem dX12_writes_289 : decode cX12_writes 289 = .ok (.getfield 91, 3) := by decide +kernel
theorem dX12_writes_292 : decode cX12_writes 292 = .ok (.iload_n 3, 1) := by decide +kernel
theorem dX12_writes_293 : decode cX12_writes 293 = .ok (.iaload, 1) := by decide +kernel
theorem dX12_writes_294 : decode cX12_writes 294 = .ok (.invokevirtual 382, 3) := by decide +kernel
theorem dX12_writes_297 : decode cX12_writes 297 = .ok (.aload_n 0, 1) := by decide +kernel
theorem dX12_writes_298 : decode cX12_writes 298 = .ok (.getfield 147, 3) := by decide +kernel
theorem dX12_writes_301 : decode cX12_writes 301 = .ok (.iload 8, 2) := by decide +kernel
theorem dX12_writes_303 : decode cX12_writes 303 = .ok (.bipush 9, 2) := by decide +kernel
theorem dX12_writes_305 : decode cX12_writes 305 = .ok (.iadd, 1) := by decide +kernel
theorem dX12_writes_306 : decode cX12_writes 306 = .ok (.aload_n 0, 1) := by decide +kernel
theorem dX12_writes_307 : decode cX12_writes 307 = .ok (.getfield 134, 3) := by decide +kernel
theorem dX12_writes_310 : decode cX12_writes 310 = .ok (.iload_n 3, 1) := by decide +kernel
theorem dX12_writes_311 : decode cX12_writes 311 = .ok (.iaload, 1) := by decide +kernel
theorem dX12_writes_312 : decode cX12_writes 312 = .ok (.i2b, 1) := by decide +kernel
theorem dX12_writes_313 : decode cX12_writes 313 = .ok (.bastore, 1) := by decide +kernel
theorem dX12_writes_314 : decode cX12_writes 314 = .ok (.aload_n 0, 1) := by decide +kernel
theorem dX12_writes_315 : decode cX12_writes 315 = .ok (.aload_n 0, 1) := by decide +kernel
theorem dX12_writes_316 : decode cX12_writes 316 = .ok (.getfield 147, 3) := by decide +kernel
theorem dX12_writes_319 : decode cX12_writes 319 = .ok (.iload 8, 2) := by decide +kernel
theorem dX12_writes_321 : decode cX12_writes 321 = .ok (.bipush 10, 2) := by decide +kernel
theorem dX12_writes_323 : decode cX12_writes 323 = .ok (.iadd, 1) := by decide +kernel
theorem dX12_writes_324 : decode cX12_writes 324 = .ok (.aload_n 0, 1) := by decide +kernel
theorem dX12_writes_325 : decode cX12_writes 325 = .ok (.getfield 97, 3) := by decide +kernel
theorem dX12_writes_328 : decode cX12_writes 328 = .ok (.iload_n 3, 1) := by decide +kernel
theorem dX12_writes_329 : decode cX12_writes 329 = .ok (.iaload, 1) := by decide +kernel
theorem dX12_writes_330 : decode cX12_writes 330 = .ok (.invokevirtual 382, 3) := by decide +kernel
theorem dX12_writes_333 : decode cX12_writes 333 = .ok (.ldc_w 393, 3) := by decide +kernel
theorem dX12_writes_336 : decode cX12_writes 336 = .ok (.iload_n 1, 1) := by decide +kernel
theorem dX12_writes_337 : decode cX12_writes 337 = .ok (.imul, 1) := by decide +kernel
theorem dX12_writes_338 : decode cX12_writes 338 = .ok (.iload_n 2, 1) := by decide +kernel
theorem dX12_writes_339 : decode cX12_writes 339 = .ok (.iadd, 1) := by decide +kernel
theorem dX12_writes_340 : decode cX12_writes 340 = .ok (.istore 9, 2) := by decide +kernel
theorem dX12_writes_342 : decode cX12_writes 342 = .ok (.bipush 12, 2) := by decide +kernel
theorem dX12_writes_344 : decode cX12_writes 344 = .ok (.istore 10, 2) := by decide +kernel
theorem dX12_writes_346 : decode cX12_writes 346 = .ok (.iload 10, 2) := by decide +kernel
theorem dX12_writes_348 : decode cX12_writes 348 = .ok (.iload 5, 2) := by decide +kernel
theorem dX12_writes_350 : decode cX12_writes 350 = .ok (.if_icmp .ge 37, 3) := by decide +kernel
theorem dX12_writes_353 : decode cX12_writes 353 = .ok (.ldc_w 394, 3) := by decide +kernel
theorem dX12_writes_356 : decode cX12_writes 356 = .ok (.iload 9, 2) := by decide +kernel
theorem dX12_writes_358 : decode cX12_writes 358 = .ok (.imul, 1) := by decide +kernel
theorem dX12_writes_359 : decode cX12_writes 359 = .ok (.sipush 12345, 3) := by decide +kernel
theorem dX12_writes_362 : decode cX12_writes 362 = .ok (.iadd, 1) := by decide +kernel
theorem dX12_writes_363 : decode cX12_writes 363 = .ok (.istore 9, 2) := by decide +kernel
theorem dX12_writes_365 : decode cX12_writes 365 = .ok (.aload_n 0, 1) := by decide +kernel
theorem dX12_writes_366 : decode cX12_writes 366 = .ok (.getfield 147, 3) := by decide +kernel
theorem dX12_writes_369 : decode cX12_writes 369 = .ok (.iload 8, 2) := by decide +kernel
theorem dX12_writes_371 : decode cX12_writes 371 = .ok (.iload 10, 2) := by decide +kernel
theorem dX12_writes_373 : decode cX12_writes 373 = .ok (.iadd, 1) := by decide +kernel
theorem dX12_writes_374 : decode cX12_writes 374 = .ok (.iload 9, 2) := by decide +kernel
theorem dX12_writes_376 : decode cX12_writes 376 = .ok (.bipush 16, 2) := by decide +kernel
theorem dX12_writes_378 : decode cX12_writes 378 = .ok (.ishr, 1) := by decide +kernel
theorem dX12_writes_379 : decode cX12_writes 379 = .ok (.i2b, 1) := by decide +kernel
theorem dX12_writes_380 : decode cX12_writes 380 = .ok (.bastore, 1) := by decide +kernel
theorem dX12_writes_381 : decode cX12_writes 381 = .ok (.iinc 10 1, 3) := by decide +kernel
theorem dX12_writes_384 : decode cX12_writes 384 = .ok (.goto (-38), 3) := by decide +kernel
theorem dX12_writes_387 : decode cX12_writes 387 = .ok (.aload_n 0, 1) := by decide +kernel
theorem dX12_writes_388 : decode cX12_writes 388 = .ok (.aload_n 0, 1) := by decide +kernel
theorem dX12_writes_389 : decode cX12_writes 389 = .ok (.getfield 147, 3) := by decide +kernel
theorem dX12_writes_392 : decode cX12_writes 392 = .ok (.iload 8, 2) := by decide +kernel
theorem dX12_writes_394 : decode cX12_writes 394 = .ok (.aload_n 0, 1) := by decide +kernel
theorem dX12_writes_395 : decode cX12_writes 395 = .ok (.aload_n 0, 1) := by decide +kernel
theorem dX12_writes_396 : decode cX12_writes 396 = .ok (.getfield 147, 3) := by decide +kernel
theorem dX12_writes_399 : decode cX12_writes 399 = .ok (.iload 8, 2) := by decide +kernel
theorem dX12_writes_401 : decode cX12_writes 401 = .ok (.iconst 4, 1) := by decide +kernel
theorem dX12_writes_402 : decode cX12_writes 402 = .ok (.iadd, 1) := by decide +kernel
theorem dX12_writes_403 : decode cX12_writes 403 = .ok (.iload 8, 2) := by decide +kernel
theorem dX12_writes_405 : decode cX12_writes 405 = .ok (.iload 5, 2) := by decide +kernel
theorem dX12_writes_407 : decode cX12_writes 407 = .ok (.iadd, 1) := by decide +kernel
theorem dX12_writes_408 : decode cX12_writes 408 = .ok (.invokevirtual 395, 3) := by decide +kernel
theorem dX12_writes_411 : decode cX12_writes 411 = .ok (.invokevirtual 378, 3) := by decide +kernel
theorem dX12_writes_414 : decode cX12_writes 414 = .ok (.return_, 1) := by decide +kernel
theorem dX12_head_0 : decode cX12_head 0 = .ok (.aload_n 0, 1) := by decide +kernel
theorem dX12_head_1 : decode cX12_head 1 = .ok (.getfield 164, 3) := by decide +kernel
theorem dX12_head_4 : decode cX12_head 4 = .ok (.iload_n 2, 1) := by decide +kernel
theorem dX12_head_5 : decode cX12_head 5 = .ok (.iload 4, 2) := by decide +kernel
theorem dX12_head_7 : decode cX12_head 7 = .ok (.ifCond .eq 17, 3) := by decide +kernel
theorem dX12_head_10 : decode cX12_head 10 = .ok (.aload_n 0, 1) := by decide +kernel
theorem dX12_head_11 : decode cX12_head 11 = .ok (.getfield 164, 3) := by decide +kernel
theorem dX12_head_14 : decode cX12_head 14 = .ok (.iload_n 2, 1) := by decide +kernel
theorem dX12_head_15 : decode cX12_head 15 = .ok (.iaload, 1) := by decide +kernel
theorem dX12_head_16 : decode cX12_head 16 = .ok (.iconst 1, 1) := by decide +kernel
theorem dX12_head_17 : decode cX12_head 17 = .ok (.iadd, 1) := by decide +kernel
theorem dX12_head_18 : decode cX12_head 18 = .ok (.bipush 15, 2) := by decide +kernel
theorem dX12_head_20 : decode cX12_head 20 = .ok (.iand, 1) := by decide +kernel
theorem dX12_head_21 : decode cX12_head 21 = .ok (.goto 9, 3) := by decide +kernel
theorem dX12_head_24 : decode cX12_head 24 = .ok (.aload_n 0, 1) := by decide +kernel
theorem dX12_head_25 : decode cX12_head 25 = .ok (.getfield 164, 3) := by decide +kernel
theorem dX12_head_28 : decode cX12_head 28 = .ok (.iload_n 2, 1) := by decide +kernel
theorem dX12_head_29 : decode cX12_head 29 = .ok (.iaload, 1) := by decide +kernel
theorem dX12_head_30 : decode cX12_head 30 = .ok (.iastore, 1) := by decide +kernel
theorem dX12_head_31 : decode cX12_head 31 = .ok (.aload_n 0, 1) := by decide +kernel
theorem dX12_head_32 : decode cX12_head 32 = .ok (.getfield 161, 3) := by decide +kernel
theorem dX12_head_35 : decode cX12_head 35 = .ok (.iconst 0, 1) := by decide +kernel
theorem dX12_head_36 : decode cX12_head 36 = .ok (.bipush 71, 2) := by decide +kernel
theorem dX12_head_38 : decode cX12_head 38 = .ok (.iastore, 1) := by decide +kernel
theorem dX12_head_39 : decode cX12_head 39 = .ok (.aload_n 0, 1) := by decide +kernel
theorem dX12_head_40 : decode cX12_head 40 = .ok (.getfield 161, 3) := by decide +kernel
theorem dX12_head_43 : decode cX12_head 43 = .ok (.iconst 1, 1) := by decide +kernel
theorem dX12_head_44 : decode cX12_head 44 = .ok (.iload_n 3, 1) := by decide +kernel
theorem dX12_head_45 : decode cX12_head 45 = .ok (.ifCond .eq 8, 3) := by decide +kernel
theorem dX12_head_48 : decode cX12_head 48 = .ok (.bipush 64, 2) := by decide +kernel
theorem dX12_head_50 : decode cX12_head 50 = .ok (.goto 4, 3) := by decide +kernel
theorem dX12_head_53 : decode cX12_head 53 = .ok (.iconst 0, 1) := by decide +kernel
theorem dX12_head_54 : decode cX12_head 54 = .ok (.iload_n 1, 1) := by decide +kernel
theorem dX12_head_55 : decode cX12_head 55 = .ok (.bipush 8, 2) := by decide +kernel
theorem dX12_head_57 : decode cX12_head 57 = .ok (.ishr, 1) := by decide +kernel
theorem dX12_head_58 : decode cX12_head 58 = .ok (.iadd, 1) := by decide +kernel
theorem dX12_head_59 : decode cX12_head 59 = .ok (.iastore, 1) := by decide +kernel
theorem dX12_head_60 : decode cX12_head 60 = .ok (.aload_n 0, 1) := by decide +kernel
theorem dX12_head_61 : decode cX12_head 61 = .ok (.getfield 161, 3) := by decide +kernel
theorem dX12_head_64 : decode cX12_head 64 = .ok (.iconst 2, 1) := by decide +kernel
theorem dX12_head_65 : decode cX12_head 65 = .ok (.iload_n 1, 1) := by decide +kernel
theorem dX12_head_66 : decode cX12_head 66 = .ok (.sipush 255, 3) := by decide +kernel
theorem dX12_head_69 : decode cX12_head 69 = .ok (.iand, 1) := by decide +kernel
theorem dX12_head_70 : decode cX12_head 70 = .ok (.iastore, 1) := by decide +kernel
theorem dX12_head_71 : decode cX12_head 71 = .ok (.aload_n 0, 1) := by decide +kernel
theorem dX12_head_72 : decode cX12_head 72 = .ok (.getfield 161, 3) := by decide +kernel
theorem dX12_head_75 : decode cX12_head 75 = .ok (.iconst 3, 1) := by decide +kernel
theorem dX12_head_76 : decode cX12_head 76 = .ok (.iload 4, 2) := by decide +kernel
theorem dX12_head_78 : decode cX12_head 78 = .ok (.ifCond .eq 8, 3) := by decide +kernel
