theorem dX0_check_0 : decode cX0_check 0 = .ok (.iconst (-1), 1) := by decide +kernel
theorem dX0_check_1 : decode cX0_check 1 = .ok (.istore_n 3, 1) := by decide +kernel
theorem dX0_check_2 : decode cX0_check 2 = .ok (.iload_n 1, 1) := by decide +kernel
theorem dX0_check_3 : decode cX0_check 3 = .ok (.istore 4, 2) := by decide +kernel
theorem dX0_check_5 : decode cX0_check 5 = .ok (.iload 4, 2) := by decide +kernel
theorem dX0_check_7 : decode cX0_check 7 = .ok (.iload_n 2, 1) := by decide +kernel
theorem dX0_check_8 : decode cX0_check 8 = .ok (.if_icmp .ge 55, 3) := by decide +kernel
theorem dX0_check_11 : decode cX0_check 11 = .ok (.aload_n 0, 1) := by decide +kernel
theorem dX0_check_12 : decode cX0_check 12 = .ok (.iload 4, 2) := by decide +kernel
theorem dX0_check_14 : decode cX0_check 14 = .ok (.baload, 1) := by decide +kernel
theorem dX0_check_15 : decode cX0_check 15 = .ok (.istore 5, 2) := by decide +kernel
theorem dX0_check_17 : decode cX0_check 17 = .ok (.iload_n 3, 1) := by decide +kernel
theorem dX0_check_18 : decode cX0_check 18 = .ok (.iconst 4, 1) := by decide +kernel
theorem dX0_check_19 : decode cX0_check 19 = .ok (.ishl, 1) := by decide +kernel
theorem dX0_check_20 : decode cX0_check 20 = .ok (.getstatic 7, 3) := by decide +kernel
theorem dX0_check_23 : decode cX0_check 23 = .ok (.iload_n 3, 1) := by decide +kernel
theorem dX0_check_24 : decode cX0_check 24 = .ok (.bipush 28, 2) := by decide +kernel
theorem dX0_check_26 : decode cX0_check 26 = .ok (.iushr, 1) := by decide +kernel
theorem dX0_check_27 : decode cX0_check 27 = .ok (.iload 5, 2) := by decide +kernel
theorem dX0_check_29 : decode cX0_check 29 = .ok (.iconst 4, 1) := by decide +kernel
theorem dX0_check_30 : decode cX0_check 30 = .ok (.iushr, 1) := by decide +kernel
theorem dX0_check_31 : decode cX0_check 31 = .ok (.ixor, 1) := by decide +kernel
theorem dX0_check_32 : decode cX0_check 32 = .ok (.bipush 15, 2) := by decide +kernel
theorem dX0_check_34 : decode cX0_check 34 = .ok (.iand, 1) := by decide +kernel
theorem dX0_check_35 : decode cX0_check 35 = .ok (.iaload, 1) := by decide +kernel
theorem dX0_check_36 : decode cX0_check 36 = .ok (.ixor, 1) := by decide +kernel
theorem dX0_check_37 : decode cX0_check 37 = .ok (.istore_n 3, 1) := by decide +kernel
theorem dX0_check_38 : decode cX0_check 38 = .ok (.iload_n 3, 1) := by decide +kernel
theorem dX0_check_39 : decode cX0_check 39 = .ok (.iconst 4, 1) := by decide +kernel
theorem dX0_check_40 : decode cX0_check 40 = .ok (.ishl, 1) := by decide +kernel
theorem dX0_check_41 : decode cX0_check 41 = .ok (.getstatic 7, 3) := by decide +kernel
theorem dX0_check_44 : decode cX0_check 44 = .ok (.iload_n 3, 1) := by decide +kernel
theorem dX0_check_45 : decode cX0_check 45 = .ok (.bipush 28, 2) := by decide +kernel
theorem dX0_check_47 : decode cX0_check 47 = .ok (.iushr, 1) := by decide +kernel
theorem dX0_check_48 : decode cX0_check 48 = .ok (.iload 5, 2) := by decide +kernel
theorem dX0_check_50 : decode cX0_check 50 = .ok (.ixor, 1) := by decide +kernel
theorem dX0_check_51 : decode cX0_check 51 = .ok (.bipush 15, 2) := by decide +kernel
theorem dX0_check_53 : decode cX0_check 53 = .ok (.iand, 1) := by decide +kernel
theorem dX0_check_54 : decode cX0_check 54 = .ok (.iaload, 1) := by decide +kernel
theorem dX0_check_55 : decode cX0_check 55 = .ok (.ixor, 1) := by decide +kernel
theorem dX0_check_56 : decode cX0_check 56 = .ok (.istore_n 3, 1) := by decide +kernel
theorem dX0_check_57 : decode cX0_check 57 = .ok (.iinc 4 1, 3) := by decide +kernel
theorem dX0_check_60 : decode cX0_check 60 = .ok (.goto (-55), 3) := by decide +kernel
theorem dX0_check_63 : decode cX0_check 63 = .ok (.iload_n 3, 1) := by decide +kernel
theorem dX0_check_64 : decode cX0_check 64 = .ok (.ireturn, 1) := by decide +kernel
theorem dX0_putTwo_0 : decode cX0_putTwo 0 = .ok (.aload_n 0, 1) := by decide +kernel
theorem dX0_putTwo_1 : decode cX0_putTwo 1 = .ok (.iload_n 1, 1) := by decide +kernel
theorem dX0_putTwo_2 : decode cX0_putTwo 2 = .ok (.iload_n 2, 1) := by decide +kernel
theorem dX0_putTwo_3 : decode cX0_putTwo 3 = .ok (.bipush 8, 2) := by decide +kernel
theorem dX0_putTwo_5 : decode cX0_putTwo 5 = .ok (.ishr, 1) := by decide +kernel
theorem dX0_putTwo_6 : decode cX0_putTwo 6 = .ok (.i2b, 1) := by decide +kernel
theorem dX0_putTwo_7 : decode cX0_putTwo 7 = .ok (.bastore, 1) := by decide +kernel
theorem dX0_putTwo_8 : decode cX0_putTwo 8 = .ok (.aload_n 0, 1) := by decide +kernel
theorem dX0_putTwo_9 : decode cX0_putTwo 9 = .ok (.iload_n 1, 1) := by decide +kernel
theorem dX0_putTwo_10 : decode cX0_putTwo 10 = .ok (.iconst 1, 1) := by decide +kernel
theorem dX0_putTwo_11 : decode cX0_putTwo 11 = .ok (.iadd, 1) := by decide +kernel
theorem dX0_putTwo_12 : decode cX0_putTwo 12 = .ok (.iload_n 2, 1) := by decide +kernel
theorem dX0_putTwo_13 : decode cX0_putTwo 13 = .ok (.i2b, 1) := by decide +kernel
theorem dX0_putTwo_14 : decode cX0_putTwo 14 = .ok (.bastore, 1) := by decide +kernel
theorem dX0_putTwo_15 : decode cX0_putTwo 15 = .ok (.return_, 1) := by decide +kernel
theorem dX0_putFour_0 : decode cX0_putFour 0 = .ok (.aload_n 0, 1) := by decide +kernel
theorem dX0_putFour_1 : decode cX0_putFour 1 = .ok (.iload_n 1, 1) := by decide +kernel
theorem dX0_putFour_2 : decode cX0_putFour 2 = .ok (.iload_n 2, 1) := by decide +kernel
theorem dX0_putFour_3 : decode cX0_putFour 3 = .ok (.bipush 24, 2) := by decide +kernel
theorem dX0_putFour_5 : decode cX0_putFour 5 = .ok (.ishr, 1) := by decide +kernel
theorem dX0_putFour_6 : decode cX0_putFour 6 = .ok (.i2b, 1) := by decide +kernel
theorem dX0_putFour_7 : decode cX0_putFour 7 = .ok (.bastore, 1) := by decide +kernel
theorem dX0_putFour_8 : decode cX0_putFour 8 = .ok (.aload_n 0, 1) := by decide +kernel
theorem dX0_putFour_9 : decode cX0_putFour 9 = .ok (.iload_n 1, 1) := by decide +kernel
theorem dX0_putFour_10 : decode cX0_putFour 10 = .ok (.iconst 1, 1) := by decide +kernel
theorem dX0_putFour_11 : decode cX0_putFour 11 = .ok (.iadd, 1) := by decide +kernel
theorem dX0_putFour_12 : decode cX0_putFour 12 = .ok (.iload_n 2, 1) := by decide +kernel
theorem dX0_putFour_13 : decode cX0_putFour 13 = .ok (.bipush 16, 2) := by decide +kernel
theorem dX0_putFour_15 : decode cX0_putFour 15 = .ok (.ishr, 1) := by decide +kernel
theorem dX0_putFour_16 : decode cX0_putFour 16 = .ok (.i2b, 1) := by decide +kernel
theorem dX0_putFour_17 : decode cX0_putFour 17 = .ok (.bastore, 1) := by decide +kernel
theorem dX0_putFour_18 : decode cX0_putFour 18 = .ok (.aload_n 0, 1) := by decide +kernel
theorem dX0_putFour_19 : decode cX0_putFour 19 = .ok (.iload_n 1, 1) := by decide +kernel
theorem dX0_putFour_20 : decode cX0_putFour 20 = .ok (.iconst 2, 1) := by decide +kernel
theorem dX0_putFour_21 : decode cX0_putFour 21 = .ok (.iadd, 1) := by decide +kernel
theorem dX0_putFour_22 : decode cX0_putFour 22 = .ok (.iload_n 2, 1) := by decide +kernel
theorem dX0_putFour_23 : decode cX0_putFour 23 = .ok (.bipush 8, 2) := by decide +kernel
theorem dX0_putFour_25 : decode cX0_putFour 25 = .ok (.ishr, 1) := by decide +kernel
theorem dX0_putFour_26 : decode cX0_putFour 26 = .ok (.i2b, 1) := by decide +kernel
theorem dX0_putFour_27 : decode cX0_putFour 27 = .ok (.bastore, 1) := by decide +kernel
theorem dX0_putFour_28 : decode cX0_putFour 28 = .ok (.aload_n 0, 1) := by decide +kernel
theorem dX0_putFour_29 : decode cX0_putFour 29 = .ok (.iload_n 1, 1) := by decide +kernel
theorem dX0_putFour_30 : decode cX0_putFour 30 = .ok (.iconst 3, 1) := by decide +kernel
theorem dX0_putFour_31 : decode cX0_putFour 31 = .ok (.iadd, 1) := by decide +kernel
theorem dX0_putFour_32 : decode cX0_putFour 32 = .ok (.iload_n 2, 1) := by decide +kernel
theorem dX0_putFour_33 : decode cX0_putFour 33 = .ok (.i2b, 1) := by decide +kernel
theorem dX0_putFour_34 : decode cX0_putFour 34 = .ok (.bastore, 1) := by decide +kernel
theorem dX0_putFour_35 : decode cX0_putFour 35 = .ok (.return_, 1) := by decide +kernel
theorem dX0_one_0 : decode cX0_one 0 = .ok (.aload_n 0, 1) := by decide +kernel
theorem dX0_one_1 : decode cX0_one 1 = .ok (.iload_n 1, 1) := by decide +kernel
theorem dX0_one_2 : decode cX0_one 2 = .ok (.baload, 1) := by decide +kernel
theorem dX0_one_3 : decode cX0_one 3 = .ok (.sipush 255, 3) := by decide +kernel
theorem dX0_one_6 : decode cX0_one 6 = .ok (.iand, 1) := by decide +kernel
theorem dX0_one_7 : decode cX0_one 7 = .ok (.ireturn, 1) := by decide +kernel
theorem dX0_two_0 : decode cX0_two 0 = .ok (.aload_n 0, 1) := by decide +kernel
theorem dX0_two_1 : decode cX0_two 1 = .ok (.iload_n 1, 1) := by decide +kernel
theorem dX0_two_2 : decode cX0_two 2 = .ok (.baload, 1) := by decide +kernel
theorem dX0_two_3 : decode cX0_two 3 = .ok (.sipush 255, 3) := by decide +kernel
theorem dX0_two_6 : decode cX0_two 6 = .ok (.iand, 1) := by decide +kernel
theorem dX0_two_7 : decode cX0_two 7 = .ok (.bipush 8, 2) := by decide +kernel
theorem dX0_two_9 : decode cX0_two 9 = .ok (.ishl, 1) := by decide +kernel
theorem dX0_two_10 : decode cX0_two 10 = .ok (.aload_n 0, 1) := by decide +kernel
theorem dX0_two_11 : decode cX0_two 11 = .ok (.iload_n 1, 1) := by decide +kernel
theorem dX0_two_12 : decode cX0_two 12 = .ok (.iconst 1, 1) := by decide +kernel
theorem dX0_two_13 : decode cX0_two 13 = .ok (.iadd, 1) := by decide +kernel
theorem dX0_two_14 : decode cX0_two 14 = .ok (.baload, 1) := by decide +kernel
theorem dX0_two_15 : decode cX0_two 15 = .ok (.sipush 255, 3) := by decide +kernel
theorem dX0_two_18 : decode cX0_two 18 = .ok (.iand, 1) := by decide +kernel
theorem dX0_two_19 : decode cX0_two 19 = .ok (.ior, 1) := by decide +kernel
theorem dX0_two_20 : decode cX0_two 20 = .ok (.ireturn, 1) := by decide +kernel
theorem dX0_four_0 : decode cX0_four 0 = .ok (.aload_n 0, 1) := by decide +kernel
theorem dX0_four_1 : decode cX0_four 1 = .ok (.iload_n 1, 1) := by decide +kernel
theorem dX0_four_2 : decode cX0_four 2 = .ok (.baload, 1) := by decide +kernel
theorem dX0_four_3 : decode cX0_four 3 = .ok (.sipush 255, 3) := by decide +kernel
theorem dX0_four_6 : decode cX0_four 6 = .ok (.iand, 1) := by decide +kernel
theorem dX0_four_7 : decode cX0_four 7 = .ok (.bipush 8, 2) := by decide +kernel
theorem dX0_four_9 : decode cX0_four 9 = .ok (.ishl, 1) := by decide +kernel
theorem dX0_four_10 : decode cX0_four 10 = .ok (.aload_n 0, 1) := by decide +kernel
theorem dX0_four_11 : decode cX0_four 11 = .ok (.iload_n 1, 1) := by decide +kernel
theorem dX0_four_12 : decode cX0_four 12 = .ok (.iconst 1, 1) := by decide +kernel
theorem dX0_four_13 : decode cX0_four 13 = .ok (.iadd, 1) := by decide +kernel
theorem dX0_four_14 : decode cX0_four 14 = .ok (.baload, 1) := by decide +kernel
theorem dX0_four_15 : decode cX0_four 15 = .ok (.sipush 255, 3) := by decide +kernel
theorem dX0_four_18 : decode cX0_four 18 = .ok (.iand, 1) := by decide +kernel
theorem dX0_four_19 : decode cX0_four 19 = .ok (.ior, 1) := by decide +kernel
theorem dX0_four_20 : decode cX0_four 20 = .ok (.istore_n 2, 1) := by decide +kernel
theorem dX0_four_21 : decode cX0_four 21 = .ok (.iload_n 2, 1) := by decide +kernel
theorem dX0_four_22 : decode cX0_four 22 = .ok (.bipush 16, 2) := by decide +kernel
theorem dX0_four_24 : decode cX0_four 24 = .ok (.ishl, 1) := by decide +kernel
theorem dX0_four_25 : decode cX0_four 25 = .ok (.aload_n 0, 1) := by decide +kernel
theorem dX0_four_26 : decode cX0_four 26 = .ok (.iload_n 1, 1) := by decide +kernel
theorem dX0_four_27 : decode cX0_four 27 = .ok (.iconst 2, 1) := by decide +kernel
theorem dX0_four_28 : decode cX0_four 28 = .ok (.iadd, 1) := by decide +kernel
theorem dX0_four_29 : decode cX0_four 29 = .ok (.baload, 1) := by decide +kernel
theorem dX0_four_30 : decode cX0_four 30 = .ok (.sipush 255, 3) := by decide +kernel
theorem dX0_four_33 : decode cX0_four 33 = .ok (.iand, 1) := by decide +kernel
theorem dX0_four_34 : decode cX0_four 34 = .ok (.bipush 8, 2) := by decide +kernel
theorem dX0_four_36 : decode cX0_four 36 = .ok (.ishl, 1) := by decide +kernel
theorem dX0_four_37 : decode cX0_four 37 = .ok (.ior, 1) := by decide +kernel
theorem dX0_four_38 : decode cX0_four 38 = .ok (.aload_n 0, 1) := by decide +kernel
theorem dX0_four_39 : decode cX0_four 39 = .ok (.iload_n 1, 1) := by decide +kernel
theorem dX0_four_40 : decode cX0_four 40 = .ok (.iconst 3, 1) := by decide +kernel
theorem dX0_four_41 : decode cX0_four 41 = .ok (.iadd, 1) := by decide +kernel
theorem dX0_four_42 : decode cX0_four 42 = .ok (.baload, 1) := by decide +kernel
theorem dX0_four_43 : decode cX0_four 43 = .ok (.sipush 255, 3) := by decide +kernel
theorem dX0_four_46 : decode cX0_four 46 = .ok (.iand, 1) := by decide +kernel
theorem dX0_four_47 : decode cX0_four 47 = .ok (.ior, 1) := by decide +kernel
theorem dX0_four_48 : decode cX0_four 48 = .ok (.ireturn, 1) := by decide +kernel
theorem dX1_init_0 : decode cX1_init 0 = .ok (.aload_n 0, 1) := by decide +kernel
theorem dX1_init_1 : decode cX1_init 1 = .ok (.invokespecial 3, 3) := by decide +kernel
theorem dX1_init_4 : decode cX1_init 4 = .ok (.aload_n 0, 1) := by decide +kernel
theorem dX1_init_5 : decode cX1_init 5 = .ok (.bipush 16, 2) := by decide +kernel
theorem dX1_init_7 : decode cX1_init 7 = .ok (.newarray .int, 2) := by decide +kernel
theorem dX1_init_9 : decode cX1_init 9 = .ok (.putfield 11, 3) := by decide +kernel
theorem dX1_init_12 : decode cX1_init 12 = .ok (.aload_n 0, 1) := by decide +kernel
theorem dX1_init_13 : decode cX1_init 13 = .ok (.bipush 16, 2) := by decide +kernel
theorem dX1_init_15 : decode cX1_init 15 = .ok (.newarray .int, 2) := by decide +kernel
theorem dX1_init_17 : decode cX1_init 17 = .ok (.putfield 15, 3) := by decide +kernel
theorem dX1_init_20 : decode cX1_init 20 = .ok (.aload_n 0, 1) := by decide +kernel
theorem dX1_init_21 : decode cX1_init 21 = .ok (.bipush 6, 2) := by decide +kernel
theorem dX1_init_23 : decode cX1_init 23 = .ok (.newarray .int, 2) := by decide +kernel
theorem dX1_init_25 : decode cX1_init 25 = .ok (.putfield 20, 3) := by decide +kernel
theorem dX1_init_28 : decode cX1_init 28 = .ok (.aload_n 0, 1) := by decide +kernel
theorem dX1_init_29 : decode cX1_init 29 = .ok (.new 18, 3) := by decide +kernel
theorem dX1_init_32 : decode cX1_init 32 = .ok (.dup, 1) := by decide +kernel
theorem dX1_init_33 : decode cX1_init 33 = .ok (.sipush 3000, 3) := by decide +kernel
theorem dX1_init_36 : decode cX1_init 36 = .ok (.invokespecial 23, 3) := by decide +kernel
theorem dX1_init_39 : decode cX1_init 39 = .ok (.putfield 26, 3) := by decide +kernel
theorem dX1_init_42 : decode cX1_init 42 = .ok (.return_, 1) := by decide +kernel
theorem dX1_add_0 : decode cX1_add 0 = .ok (.aload_n 0, 1) := by decide +kernel
theorem dX1_add_1 : decode cX1_add 1 = .ok (.getfield 30, 3) := by decide +kernel
theorem dX1_add_4 : decode cX1_add 4 = .ok (.bipush 16, 2) := by decide +kernel
theorem dX1_add_6 : decode cX1_add 6 = .ok (.if_icmp .lt 6, 3) := by decide +kernel
theorem dX1_add_9 : decode cX1_add 9 = .ok (.bipush (-3), 2) := by decide +kernel
theorem dX1_add_11 : decode cX1_add 11 = .ok (.ireturn, 1) := by decide +kernel
theorem dX1_add_12 : decode cX1_add 12 = .ok (.aload_n 0, 1) := by decide +kernel
theorem dX1_add_13 : decode cX1_add 13 = .ok (.getfield 11, 3) := by decide +kernel
theorem dX1_add_16 : decode cX1_add 16 = .ok (.aload_n 0, 1) := by decide +kernel
theorem dX1_add_17 : decode cX1_add 17 = .ok (.getfield 30, 3) := by decide +kernel
theorem dX1_add_20 : decode cX1_add 20 = .ok (.iload_n 1, 1) := by decide +kernel
theorem dX1_add_21 : decode cX1_add 21 = .ok (.iastore, 1) := by decide +kernel
theorem dX1_add_22 : decode cX1_add 22 = .ok (.aload_n 0, 1) := by decide +kernel
theorem dX1_add_23 : decode cX1_add 23 = .ok (.getfield 15, 3) := by decide +kernel
theorem dX1_add_26 : decode cX1_add 26 = .ok (.aload_n 0, 1) := by decide +kernel
theorem dX1_add_27 : decode cX1_add 27 = .ok (.getfield 30, 3) := by decide +kernel
theorem dX1_add_30 : decode cX1_add 30 = .ok (.iload_n 2, 1) := by decide +kernel
theorem dX1_add_31 : decode cX1_add 31 = .ok (.iastore, 1) := by decide +kernel
theorem dX1_add_32 : decode cX1_add 32 = .ok (.aload_n 0, 1) := by decide +kernel
theorem dX1_add_33 : decode cX1_add 33 = .ok (.dup, 1) := by decide +kernel
theorem dX1_add_34 : decode cX1_add 34 = .ok (.getfield 30, 3) := by decide +kernel
theorem dX1_add_37 : decode cX1_add 37 = .ok (.dup_x1, 1) := by decide +kernel
theorem dX1_add_38 : decode cX1_add 38 = .ok (.iconst 1, 1) := by decide +kernel
theorem dX1_add_39 : decode cX1_add 39 = .ok (.iadd, 1) := by decide +kernel
theorem dX1_add_40 : decode cX1_add 40 = .ok (.putfield 30, 3) := by decide +kernel
theorem dX1_add_43 : decode cX1_add 43 = .ok (.ireturn, 1) := by decide +kernel
theorem dX1_addFill_0 : decode cX1_addFill 0 = .ok (.aload_n 0, 1) := by decide +kernel
theorem dX1_addFill_1 : decode cX1_addFill 1 = .ok (.getfield 26, 3) := by decide +kernel
theorem dX1_addFill_4 : decode cX1_addFill 4 = .ok (.getfield 34, 3) := by decide +kernel
theorem dX1_addFill_7 : decode cX1_addFill 7 = .ok (.istore_n 2, 1) := by decide +kernel
theorem dX1_addFill_8 : decode cX1_addFill 8 = .ok (.aload_n 0, 1) := by decide +kernel
theorem dX1_addFill_9 : decode cX1_addFill 9 = .ok (.getfield 26, 3) := by decide +kernel
theorem dX1_addFill_12 : decode cX1_addFill 12 = .ok (.aload_n 0, 1) := by decide +kernel
theorem dX1_addFill_13 : decode cX1_addFill 13 = .ok (.getfield 11, 3) := by decide +kernel
theorem dX1_addFill_16 : decode cX1_addFill 16 = .ok (.iload_n 1, 1) := by decide +kernel
theorem dX1_addFill_17 : decode cX1_addFill 17 = .ok (.iaload, 1) := by decide +kernel
theorem dX1_addFill_18 : decode cX1_addFill 18 = .ok (.invokevirtual 35, 3) := by decide +kernel
theorem dX1_addFill_21 : decode cX1_addFill 21 = .ok (.ifCond .ne 6, 3) := by decide +kernel
theorem dX1_addFill_24 : decode cX1_addFill 24 = .ok (.bipush (-3), 2) := by decide +kernel
theorem dX1_addFill_26 : decode cX1_addFill 26 = .ok (.ireturn, 1) := by decide +kernel
theorem dX1_addFill_27 : decode cX1_addFill 27 = .ok (.aload_n 0, 1) := by decide +kernel
theorem dX1_addFill_28 : decode cX1_addFill 28 = .ok (.getfield 20, 3) := by decide +kernel
theorem dX1_addFill_31 : decode cX1_addFill 31 = .ok (.iload_n 2, 1) := by decide +kernel
theorem dX1_addFill_32 : decode cX1_addFill 32 = .ok (.iload_n 1, 1) := by decide +kernel
theorem dX1_addFill_33 : decode cX1_addFill 33 = .ok (.iastore, 1) := by decide +kernel
theorem dX1_addFill_34 : decode cX1_addFill 34 = .ok (.aload_n 0, 1) := by decide +kernel
theorem dX1_addFill_35 : decode cX1_addFill 35 = .ok (.getfield 26, 3) := by decide +kernel
theorem dX1_addFill_38 : decode cX1_addFill 38 = .ok (.getfield 34, 3) := by decide +kernel
theorem dX1_addFill_41 : decode cX1_addFill 41 = .ok (.ireturn, 1) := by decide +kernel
theorem dX1_fillFor_0 : decode cX1_fillFor 0 = .ok (.iload_n 1, 1) := by decide +kernel
theorem dX1_fillFor_1 : decode cX1_fillFor 1 = .ok (.iconst (-1), 1) := by decide +kernel
theorem dX1_fillFor_2 : decode cX1_fillFor 2 = .ok (.if_icmp .ne 19, 3) := by decide +kernel
theorem dX1_fillFor_5 : decode cX1_fillFor 5 = .ok (.aload_n 0, 1) := by decide +kernel
theorem dX1_fillFor_6 : decode cX1_fillFor 6 = .ok (.getfield 26, 3) := by decide +kernel
theorem dX1_fillFor_9 : decode cX1_fillFor 9 = .ok (.getfield 34, 3) := by decide +kernel
theorem dX1_fillFor_12 : decode cX1_fillFor 12 = .ok (.ifCond .le 7, 3) := by decide +kernel
theorem dX1_fillFor_15 : decode cX1_fillFor 15 = .ok (.iconst 0, 1) := by decide +kernel
theorem dX1_fillFor_16 : decode cX1_fillFor 16 = .ok (.goto 4, 3) := by decide +kernel
theorem dX1_fillFor_19 : decode cX1_fillFor 19 = .ok (.iconst (-1), 1) := by decide +kernel
theorem dX1_fillFor_20 : decode cX1_fillFor 20 = .ok (.ireturn, 1) := by decide +kernel
theorem dX1_fillFor_21 : decode cX1_fillFor 21 = .ok (.aload_n 0, 1) := by decide +kernel
theorem dX1_fillFor_22 : decode cX1_fillFor 22 = .ok (.getfield 26, 3) := by decide +kernel
theorem dX1_fillFor_25 : decode cX1_fillFor 25 = .ok (.iload_n 1, 1) := by decide +kernel
theorem dX1_fillFor_26 : decode cX1_fillFor 26 = .ok (.invokevirtual 39, 3) := by decide +kernel
theorem dX1_fillFor_29 : decode cX1_fillFor 29 = .ok (.istore_n 2, 1) := by decide +kernel
theorem dX1_fillFor_30 : decode cX1_fillFor 30 = .ok (.iload_n 2, 1) := by decide +kernel
theorem dX1_fillFor_31 : decode cX1_fillFor 31 = .ok (.iconst (-1), 1) := by decide +kernel
theorem dX1_fillFor_32 : decode cX1_fillFor 32 = .ok (.if_icmp .eq 7, 3) := by decide +kernel
theorem dX1_fillFor_35 : decode cX1_fillFor 35 = .ok (.iload_n 2, 1) := by decide +kernel
theorem dX1_fillFor_36 : decode cX1_fillFor 36 = .ok (.goto 11, 3) := by decide +kernel
theorem dX1_fillFor_39 : decode cX1_fillFor 39 = .ok (.aload_n 0, 1) := by decide +kernel
theorem dX1_fillFor_40 : decode cX1_fillFor 40 = .ok (.getfield 26, 3) := by decide +kernel
theorem dX1_fillFor_43 : decode cX1_fillFor 43 = .ok (.iload_n 1, 1) := by decide +kernel
theorem dX1_fillFor_44 : decode cX1_fillFor 44 = .ok (.invokevirtual 43, 3) := by decide +kernel
theorem dX1_fillFor_47 : decode cX1_fillFor 47 = .ok (.ireturn, 1) := by decide +kernel
theorem dX2_init_0 : decode cX2_init 0 = .ok (.aload_n 0, 1) := by decide +kernel
theorem dX2_init_1 : decode cX2_init 1 = .ok (.invokespecial 3, 3) := by decide +kernel
theorem dX2_init_4 : decode cX2_init 4 = .ok (.aload_n 0, 1) := by decide +kernel
theorem dX2_init_5 : decode cX2_init 5 = .ok (.bipush 6, 2) := by decide +kernel
theorem dX2_init_7 : decode cX2_init 7 = .ok (.newarray .int, 2) := by decide +kernel
theorem dX2_init_9 : decode cX2_init 9 = .ok (.putfield 11, 3) := by decide +kernel
theorem dX2_init_12 : decode cX2_init 12 = .ok (.aload_n 0, 1) := by decide +kernel
theorem dX2_init_13 : decode cX2_init 13 = .ok (.iload_n 1, 1) := by decide +kernel
theorem dX2_init_14 : decode cX2_init 14 = .ok (.iconst 1, 1) := by decide +kernel
theorem dX2_init_15 : decode cX2_init 15 = .ok (.iadd, 1) := by decide +kernel
theorem dX2_init_16 : decode cX2_init 16 = .ok (.newarray .int, 2) := by decide +kernel
theorem dX2_init_18 : decode cX2_init 18 = .ok (.putfield 15, 3) := by decide +kernel
theorem dX2_init_21 : decode cX2_init 21 = .ok (.aload_n 0, 1) := by decide +kernel
theorem dX2_init_22 : decode cX2_init 22 = .ok (.getfield 15, 3) := by decide +kernel
theorem dX2_init_25 : decode cX2_init 25 = .ok (.bipush 13, 2) := by decide +kernel
theorem dX2_init_27 : decode cX2_init 27 = .ok (.invokestatic 18, 3) := by decide +kernel
theorem dX2_init_30 : decode cX2_init 30 = .ok (.aload_n 0, 1) := by decide +kernel
theorem dX2_init_31 : decode cX2_init 31 = .ok (.getfield 15, 3) := by decide +kernel
theorem dX2_init_34 : decode cX2_init 34 = .ok (.iconst 0, 1) := by decide +kernel
theorem dX2_init_35 : decode cX2_init 35 = .ok (.iconst 0, 1) := by decide +kernel
theorem dX2_init_36 : decode cX2_init 36 = .ok (.iastore, 1) := by decide +kernel
theorem dX2_init_37 : decode cX2_init 37 = .ok (.return_, 1) := by decide +kernel
theorem dX2_add_0 : decode cX2_add 0 = .ok (.aload_n 0, 1) := by decide +kernel
theorem dX2_add_1 : decode cX2_add 1 = .ok (.getfield 24, 3) := by decide +kernel
theorem dX2_add_4 : decode cX2_add 4 = .ok (.bipush 6, 2) := by decide +kernel
theorem dX2_add_6 : decode cX2_add 6 = .ok (.if_icmp .lt 5, 3) := by decide +kernel
theorem dX2_add_9 : decode cX2_add 9 = .ok (.iconst 0, 1) := by decide +kernel
theorem dX2_add_10 : decode cX2_add 10 = .ok (.ireturn, 1) := by decide +kernel
theorem dX2_add_11 : decode cX2_add 11 = .ok (.aload_n 0, 1) := by decide +kernel
theorem dX2_add_12 : decode cX2_add 12 = .ok (.getfield 11, 3) := by decide +kernel
theorem dX2_add_15 : decode cX2_add 15 = .ok (.aload_n 0, 1) := by decide +kernel
theorem dX2_add_16 : decode cX2_add 16 = .ok (.dup, 1) := by decide +kernel
theorem dX2_add_17 : decode cX2_add 17 = .ok (.getfield 24, 3) := by decide +kernel
theorem dX2_add_20 : decode cX2_add 20 = .ok (.dup_x1, 1) := by decide +kernel
theorem dX2_add_21 : decode cX2_add 21 = .ok (.iconst 1, 1) := by decide +kernel
theorem dX2_add_22 : decode cX2_add 22 = .ok (.iadd, 1) := by decide +kernel
theorem dX2_add_23 : decode cX2_add 23 = .ok (.putfield 24, 3) := by decide +kernel
theorem dX2_add_26 : decode cX2_add 26 = .ok (.iload_n 1, 1) := by decide +kernel
theorem dX2_add_27 : decode cX2_add 27 = .ok (.iastore, 1) := by decide +kernel
theorem dX2_add_28 : decode cX2_add 28 = .ok (.iload_n 1, 1) := by decide +kernel
theorem dX2_add_29 : decode cX2_add 29 = .ok (.istore_n 2, 1) := by decide +kernel
theorem dX2_add_30 : decode cX2_add 30 = .ok (.iload_n 2, 1) := by decide +kernel
theorem dX2_add_31 : decode cX2_add 31 = .ok (.aload_n 0, 1) := by decide +kernel
theorem dX2_add_32 : decode cX2_add 32 = .ok (.getfield 15, 3) := by decide +kernel
theorem dX2_add_35 : decode cX2_add 35 = .ok (.arraylength, 1) := by decide +kernel
theorem dX2_add_36 : decode cX2_add 36 = .ok (.if_icmp .ge 34, 3) := by decide +kernel
theorem dX2_add_39 : decode cX2_add 39 = .ok (.aload_n 0, 1) := by decide +kernel
theorem dX2_add_40 : decode cX2_add 40 = .ok (.getfield 15, 3) := by decide +kernel
theorem dX2_add_43 : decode cX2_add 43 = .ok (.iload_n 2, 1) := by decide +kernel
theorem dX2_add_44 : decode cX2_add 44 = .ok (.aload_n 0, 1) := by decide +kernel
theorem dX2_add_45 : decode cX2_add 45 = .ok (.getfield 15, 3) := by decide +kernel
theorem dX2_add_48 : decode cX2_add 48 = .ok (.iload_n 2, 1) := by decide +kernel
theorem dX2_add_49 : decode cX2_add 49 = .ok (.iaload, 1) := by decide +kernel
theorem dX2_add_50 : decode cX2_add 50 = .ok (.aload_n 0, 1) := by decide +kernel
theorem dX2_add_51 : decode cX2_add 51 = .ok (.getfield 15, 3) := by decide +kernel
theorem dX2_add_54 : decode cX2_add 54 = .ok (.iload_n 2, 1) := by decide +kernel
theorem dX2_add_55 : decode cX2_add 55 = .ok (.iload_n 1, 1) := by decide +kernel
theorem dX2_add_56 : decode cX2_add 56 = .ok (.isub, 1) := by decide +kernel
theorem dX2_add_57 : decode cX2_add 57 = .ok (.iaload, 1) := by decide +kernel
theorem dX2_add_58 : decode cX2_add 58 = .ok (.iconst 1, 1) := by decide +kernel
theorem dX2_add_59 : decode cX2_add 59 = .ok (.iadd, 1) := by decide +kernel
theorem dX2_add_60 : decode cX2_add 60 = .ok (.invokestatic 28, 3) := by decide +kernel
theorem dX2_add_63 : decode cX2_add 63 = .ok (.iastore, 1) := by decide +kernel
theorem dX2_add_64 : decode cX2_add 64 = .ok (.iinc 2 1, 3) := by decide +kernel
theorem dX2_add_67 : decode cX2_add 67 = .ok (.goto (-37), 3) := by decide +kernel
theorem dX2_add_70 : decode cX2_add 70 = .ok (.iconst 1, 1) := by decide +kernel
theorem dX2_add_71 : decode cX2_add 71 = .ok (.ireturn, 1) := by decide +kernel
theorem dX2_firstPiece_0 : decode cX2_firstPiece 0 = .ok (.iload_n 1, 1) := by decide +kernel
theorem dX2_firstPiece_1 : decode cX2_firstPiece 1 = .ok (.iconst 1, 1) := by decide +kernel
theorem dX2_firstPiece_2 : decode cX2_firstPiece 2 = .ok (.if_icmp .lt 23, 3) := by decide +kernel
theorem dX2_firstPiece_5 : decode cX2_firstPiece 5 = .ok (.iload_n 1, 1) := by decide +kernel
theorem dX2_firstPiece_6 : decode cX2_firstPiece 6 = .ok (.aload_n 0, 1) := by decide +kernel
theorem dX2_firstPiece_7 : decode cX2_firstPiece 7 = .ok (.getfield 15, 3) := by decide +kernel
theorem dX2_firstPiece_10 : decode cX2_firstPiece 10 = .ok (.arraylength, 1) := by decide +kernel
theorem dX2_firstPiece_11 : decode cX2_firstPiece 11 = .ok (.if_icmp .ge 14, 3) := by decide +kernel
theorem dX2_firstPiece_14 : decode cX2_firstPiece 14 = .ok (.aload_n 0, 1) := by decide +kernel
theorem dX2_firstPiece_15 : decode cX2_firstPiece 15 = .ok (.getfield 15, 3) := by decide +kernel
theorem dX2_firstPiece_18 : decode cX2_firstPiece 18 = .ok (.iload_n 1, 1) := by decide +kernel
theorem dX2_firstPiece_19 : decode cX2_firstPiece 19 = .ok (.iaload, 1) := by decide +kernel
theorem dX2_firstPiece_20 : decode cX2_firstPiece 20 = .ok (.bipush 12, 2) := by decide +kernel
theorem dX2_firstPiece_22 : decode cX2_firstPiece 22 = .ok (.if_icmp .le 5, 3) := by decide +kernel
theorem dX2_firstPiece_25 : decode cX2_firstPiece 25 = .ok (.iconst (-1), 1) := by decide +kernel
theorem dX2_firstPiece_26 : decode cX2_firstPiece 26 = .ok (.ireturn, 1) := by decide +kernel
theorem dX2_firstPiece_27 : decode cX2_firstPiece 27 = .ok (.iconst 0, 1) := by decide +kernel
theorem dX2_firstPiece_28 : decode cX2_firstPiece 28 = .ok (.istore_n 2, 1) := by decide +kernel
theorem dX2_firstPiece_29 : decode cX2_firstPiece 29 = .ok (.iload_n 2, 1) := by decide +kernel
theorem dX2_firstPiece_30 : decode cX2_firstPiece 30 = .ok (.aload_n 0, 1) := by decide +kernel
theorem dX2_firstPiece_31 : decode cX2_firstPiece 31 = .ok (.getfield 24, 3) := by decide +kernel
theorem dX2_firstPiece_34 : decode cX2_firstPiece 34 = .ok (.if_icmp .ge 45, 3) := by decide +kernel
theorem dX2_firstPiece_37 : decode cX2_firstPiece 37 = .ok (.aload_n 0, 1) := by decide +kernel
theorem dX2_firstPiece_38 : decode cX2_firstPiece 38 = .ok (.getfield 11, 3) := by decide +kernel
theorem dX2_firstPiece_41 : decode cX2_firstPiece 41 = .ok (.iload_n 2, 1) := by decide +kernel
theorem dX2_firstPiece_42 : decode cX2_firstPiece 42 = .ok (.iaload, 1) := by decide +kernel
theorem dX2_firstPiece_43 : decode cX2_firstPiece 43 = .ok (.iload_n 1, 1) := by decide +kernel
theorem dX2_firstPiece_44 : decode cX2_firstPiece 44 = .ok (.if_icmp .gt 29, 3) := by decide +kernel
theorem dX2_firstPiece_47 : decode cX2_firstPiece 47 = .ok (.aload_n 0, 1) := by decide +kernel
theorem dX2_firstPiece_48 : decode cX2_firstPiece 48 = .ok (.getfield 15, 3) := by decide +kernel
theorem dX2_firstPiece_51 : decode cX2_firstPiece 51 = .ok (.iload_n 1, 1) := by decide +kernel
theorem dX2_firstPiece_52 : decode cX2_firstPiece 52 = .ok (.aload_n 0, 1) := by decide +kernel
theorem dX2_firstPiece_53 : decode cX2_firstPiece 53 = .ok (.getfield 11, 3) := by decide +kernel
theorem dX2_firstPiece_56 : decode cX2_firstPiece 56 = .ok (.iload_n 2, 1) := by decide +kernel
theorem dX2_firstPiece_57 : decode cX2_firstPiece 57 = .ok (.iaload, 1) := by decide +kernel
theorem dX2_firstPiece_58 : decode cX2_firstPiece 58 = .ok (.isub, 1) := by decide +kernel
theorem dX2_firstPiece_59 : decode cX2_firstPiece 59 = .ok (.iaload, 1) := by decide +kernel
theorem dX2_firstPiece_60 : decode cX2_firstPiece 60 = .ok (.aload_n 0, 1) := by decide +kernel
theorem dX2_firstPiece_61 : decode cX2_firstPiece 61 = .ok (.getfield 15, 3) := by decide +kernel
theorem dX2_firstPiece_64 : decode cX2_firstPiece 64 = .ok (.iload_n 1, 1) := by decide +kernel
theorem dX2_firstPiece_65 : decode cX2_firstPiece 65 = .ok (.iaload, 1) := by decide +kernel
theorem dX2_firstPiece_66 : decode cX2_firstPiece 66 = .ok (.iconst 1, 1) := by decide +kernel
theorem dX2_firstPiece_67 : decode cX2_firstPiece 67 = .ok (.isub, 1) := by decide +kernel
theorem dX2_firstPiece_68 : decode cX2_firstPiece 68 = .ok (.if_icmp .ne 5, 3) := by decide +kernel
theorem dX2_firstPiece_71 : decode cX2_firstPiece 71 = .ok (.iload_n 2, 1) := by decide +kernel
theorem dX2_firstPiece_72 : decode cX2_firstPiece 72 = .ok (.ireturn, 1) := by decide +kernel
theorem dX2_firstPiece_73 : decode cX2_firstPiece 73 = .ok (.iinc 2 1, 3) := by decide +kernel
theorem dX2_firstPiece_76 : decode cX2_firstPiece 76 = .ok (.goto (-47), 3) := by decide +kernel
theorem dX2_firstPiece_79 : decode cX2_firstPiece 79 = .ok (.iconst (-1), 1) := by decide +kernel
theorem dX2_firstPiece_80 : decode cX2_firstPiece 80 = .ok (.ireturn, 1) := by decide +kernel
theorem dX2_longestWithin_0 : decode cX2_longestWithin 0 = .ok (.iconst (-1), 1) := by decide +kernel
theorem dX2_longestWithin_1 : decode cX2_longestWithin 1 = .ok (.istore_n 2, 1) := by decide +kernel
theorem dX2_longestWithin_2 : decode cX2_longestWithin 2 = .ok (.iconst 0, 1) := by decide +kernel
theorem dX2_longestWithin_3 : decode cX2_longestWithin 3 = .ok (.istore_n 3, 1) := by decide +kernel
theorem dX2_longestWithin_4 : decode cX2_longestWithin 4 = .ok (.iload_n 3, 1) := by decide +kernel
theorem dX2_longestWithin_5 : decode cX2_longestWithin 5 = .ok (.aload_n 0, 1) := by decide +kernel
theorem dX2_longestWithin_6 : decode cX2_longestWithin 6 = .ok (.getfield 24, 3) := by decide +kernel
theorem dX2_longestWithin_9 : decode cX2_longestWithin 9 = .ok (.if_icmp .ge 41, 3) := by decide +kernel
theorem dX2_longestWithin_12 : decode cX2_longestWithin 12 = .ok (.aload_n 0, 1) := by decide +kernel
theorem dX2_longestWithin_13 : decode cX2_longestWithin 13 = .ok (.getfield 11, 3) := by decide +kernel
theorem dX2_longestWithin_16 : decode cX2_longestWithin 16 = .ok (.iload_n 3, 1) := by decide +kernel
theorem dX2_longestWithin_17 : decode cX2_longestWithin 17 = .ok (.iaload, 1) := by decide +kernel
theorem dX2_longestWithin_18 : decode cX2_longestWithin 18 = .ok (.iload_n 1, 1) := by decide +kernel
theorem dX2_longestWithin_19 : decode cX2_longestWithin 19 = .ok (.if_icmp .gt 25, 3) := by decide +kernel
theorem dX2_longestWithin_22 : decode cX2_longestWithin 22 = .ok (.iload_n 2, 1) := by decide +kernel
theorem dX2_longestWithin_23 : decode cX2_longestWithin 23 = .ok (.iconst (-1), 1) := by decide +kernel
theorem dX2_longestWithin_24 : decode cX2_longestWithin 24 = .ok (.if_icmp .eq 18, 3) := by decide +kernel
theorem dX2_longestWithin_27 : decode cX2_longestWithin 27 = .ok (.aload_n 0, 1) := by decide +kernel
theorem dX2_longestWithin_28 : decode cX2_longestWithin 28 = .ok (.getfield 11, 3) := by decide +kernel
theorem dX2_longestWithin_31 : decode cX2_longestWithin 31 = .ok (.iload_n 3, 1) := by decide +kernel
theorem dX2_longestWithin_32 : decode cX2_longestWithin 32 = .ok (.iaload, 1) := by decide +kernel
theorem dX2_longestWithin_33 : decode cX2_longestWithin 33 = .ok (.aload_n 0, 1) := by decide +kernel
theorem dX2_longestWithin_34 : decode cX2_longestWithin 34 = .ok (.getfield 11, 3) := by decide +kernel
theorem dX2_longestWithin_37 : decode cX2_longestWithin 37 = .ok (.iload_n 2, 1) := by decide +kernel
theorem dX2_longestWithin_38 : decode cX2_longestWithin 38 = .ok (.iaload, 1) := by decide +kernel
theorem dX2_longestWithin_39 : decode cX2_longestWithin 39 = .ok (.if_icmp .le 5, 3) := by decide +kernel
theorem dX2_longestWithin_42 : decode cX2_longestWithin 42 = .ok (.iload_n 3, 1) := by decide +kernel
theorem dX2_longestWithin_43 : decode cX2_longestWithin 43 = .ok (.istore_n 2, 1) := by decide +kernel
theorem dX2_longestWithin_44 : decode cX2_longestWithin 44 = .ok (.iinc 3 1, 3) := by decide +kernel
theorem dX2_longestWithin_47 : decode cX2_longestWithin 47 = .ok (.goto (-43), 3) := by decide +kernel
theorem dX2_longestWithin_50 : decode cX2_longestWithin 50 = .ok (.iload_n 2, 1) := by decide +kernel
theorem dX2_longestWithin_51 : decode cX2_longestWithin 51 = .ok (.ireturn, 1) := by decide +kernel
theorem dX3_init_0 : decode cX3_init 0 = .ok (.aload_n 0, 1) := by decide +kernel
theorem dX3_init_1 : decode cX3_init 1 = .ok (.invokespecial 3, 3) := by decide +kernel
theorem dX3_init_4 : decode cX3_init 4 = .ok (.aload_n 0, 1) := by decide +kernel
theorem dX3_init_5 : decode cX3_init 5 = .ok (.sipush 8192, 3) := by decide +kernel
theorem dX3_init_8 : decode cX3_init 8 = .ok (.newarray .int, 2) := by decide +kernel
theorem dX3_init_10 : decode cX3_init 10 = .ok (.putfield 11, 3) := by decide +kernel
theorem dX3_init_13 : decode cX3_init 13 = .ok (.aload_n 0, 1) := by decide +kernel
theorem dX3_init_14 : decode cX3_init 14 = .ok (.bipush 9, 2) := by decide +kernel
theorem dX3_init_16 : decode cX3_init 16 = .ok (.newarray .int, 2) := by decide +kernel
theorem dX3_init_18 : decode cX3_init 18 = .ok (.putfield 15, 3) := by decide +kernel
theorem dX3_init_21 : decode cX3_init 21 = .ok (.aload_n 0, 1) := by decide +kernel
theorem dX3_init_22 : decode cX3_init 22 = .ok (.iconst (-1), 1) := by decide +kernel
theorem dX3_init_23 : decode cX3_init 23 = .ok (.putfield 18, 3) := by decide +kernel
theorem dX3_init_26 : decode cX3_init 26 = .ok (.aload_n 0, 1) := by decide +kernel
theorem dX3_init_27 : decode cX3_init 27 = .ok (.iconst (-1), 1) := by decide +kernel
theorem dX3_init_28 : decode cX3_init 28 = .ok (.putfield 22, 3) := by decide +kernel
theorem dX3_init_31 : decode cX3_init 31 = .ok (.aload_n 0, 1) := by decide +kernel
theorem dX3_init_32 : decode cX3_init 32 = .ok (.iconst 3, 1) := by decide +kernel
theorem dX3_init_33 : decode cX3_init 33 = .ok (.newarray .int, 2) := by decide +kernel
theorem dX3_init_35 : decode cX3_init 35 = .ok (.putfield 25, 3) := by decide +kernel
theorem dX3_init_38 : decode cX3_init 38 = .ok (.aload_n 0, 1) := by decide +kernel
theorem dX3_init_39 : decode cX3_init 39 = .ok (.iload_n 1, 1) := by decide +kernel
theorem dX3_init_40 : decode cX3_init 40 = .ok (.putfield 28, 3) := by decide +kernel
theorem dX3_init_43 : decode cX3_init 43 = .ok (.aload_n 0, 1) := by decide +kernel
theorem dX3_init_44 : decode cX3_init 44 = .ok (.lload_n 2, 1) := by decide +kernel
theorem dX3_init_45 : decode cX3_init 45 = .ok (.putfield 31, 3) := by decide +kernel
theorem dX3_init_48 : decode cX3_init 48 = .ok (.aload_n 0, 1) := by decide +kernel
theorem dX3_init_49 : decode cX3_init 49 = .ok (.aload 4, 2) := by decide +kernel
theorem dX3_init_51 : decode cX3_init 51 = .ok (.putfield 35, 3) := by decide +kernel
theorem dX3_init_54 : decode cX3_init 54 = .ok (.aload_n 0, 1) := by decide +kernel
theorem dX3_init_55 : decode cX3_init 55 = .ok (.aload 5, 2) := by decide +kernel
theorem dX3_init_57 : decode cX3_init 57 = .ok (.putfield 39, 3) := by decide +kernel
theorem dX3_init_60 : decode cX3_init 60 = .ok (.aload_n 0, 1) := by decide +kernel
theorem dX3_init_61 : decode cX3_init 61 = .ok (.getfield 11, 3) := by decide +kernel
theorem dX3_init_64 : decode cX3_init 64 = .ok (.iconst (-1), 1) := by decide +kernel
theorem dX3_init_65 : decode cX3_init 65 = .ok (.invokestatic 43, 3) := by decide +kernel
theorem dX3_init_68 : decode cX3_init 68 = .ok (.return_, 1) := by decide +kernel
theorem dX3_look_0 : decode cX3_look 0 = .ok (.aload_n 0, 1) := by decide +kernel
theorem dX3_look_1 : decode cX3_look 1 = .ok (.iload_n 1, 1) := by decide +kernel
theorem dX3_look_2 : decode cX3_look 2 = .ok (.putfield 49, 3) := by decide +kernel
theorem dX3_look_5 : decode cX3_look 5 = .ok (.aload_n 0, 1) := by decide +kernel
theorem dX3_look_6 : decode cX3_look 6 = .ok (.iload_n 2, 1) := by decide +kernel
theorem dX3_look_7 : decode cX3_look 7 = .ok (.putfield 52, 3) := by decide +kernel
theorem dX3_look_10 : decode cX3_look 10 = .ok (.aload_n 0, 1) := by decide +kernel
theorem dX3_look_11 : decode cX3_look 11 = .ok (.getfield 39, 3) := by decide +kernel
theorem dX3_look_14 : decode cX3_look 14 = .ok (.aload_n 0, 1) := by decide +kernel
theorem dX3_look_15 : decode cX3_look 15 = .ok (.getfield 52, 3) := by decide +kernel
theorem dX3_look_18 : decode cX3_look 18 = .ok (.invokestatic 55, 3) := by decide +kernel
theorem dX3_look_21 : decode cX3_look 21 = .ok (.bipush 71, 2) := by decide +kernel
theorem dX3_look_23 : decode cX3_look 23 = .ok (.if_icmp .ne 21, 3) := by decide +kernel
theorem dX3_look_26 : decode cX3_look 26 = .ok (.aload_n 0, 1) := by decide +kernel
theorem dX3_look_27 : decode cX3_look 27 = .ok (.getfield 39, 3) := by decide +kernel
theorem dX3_look_30 : decode cX3_look 30 = .ok (.aload_n 0, 1) := by decide +kernel
theorem dX3_look_31 : decode cX3_look 31 = .ok (.getfield 52, 3) := by decide +kernel
theorem dX3_look_34 : decode cX3_look 34 = .ok (.iconst 1, 1) := by decide +kernel
theorem dX3_look_35 : decode cX3_look 35 = .ok (.iadd, 1) := by decide +kernel
theorem dX3_look_36 : decode cX3_look 36 = .ok (.baload, 1) := by decide +kernel
theorem dX3_look_37 : decode cX3_look 37 = .ok (.sipush 128, 3) := by decide +kernel
theorem dX3_look_40 : decode cX3_look 40 = .ok (.iand, 1) := by decide +kernel
theorem dX3_look_41 : decode cX3_look 41 = .ok (.ifCond .eq 9, 3) := by decide +kernel
theorem dX3_look_44 : decode cX3_look 44 = .ok (.aload_n 0, 1) := by decide +kernel
theorem dX3_look_45 : decode cX3_look 45 = .ok (.iconst 1, 1) := by decide +kernel
theorem dX3_look_46 : decode cX3_look 46 = .ok (.invokevirtual 61, 3) := by decide +kernel
theorem dX3_look_49 : decode cX3_look 49 = .ok (.return_, 1) := by decide +kernel
theorem dX3_look_50 : decode cX3_look 50 = .ok (.aload_n 0, 1) := by decide +kernel
theorem dX3_look_51 : decode cX3_look 51 = .ok (.invokevirtual 65, 3) := by decide +kernel
theorem dX3_look_54 : decode cX3_look 54 = .ok (.ifCond .ne 9, 3) := by decide +kernel
theorem dX3_look_57 : decode cX3_look 57 = .ok (.aload_n 0, 1) := by decide +kernel
theorem dX3_look_58 : decode cX3_look 58 = .ok (.iconst 2, 1) := by decide +kernel
theorem dX3_look_59 : decode cX3_look 59 = .ok (.invokevirtual 61, 3) := by decide +kernel
theorem dX3_look_62 : decode cX3_look 62 = .ok (.return_, 1) := by decide +kernel
theorem dX3_look_63 : decode cX3_look 63 = .ok (.aload_n 0, 1) := by decide +kernel
theorem dX3_look_64 : decode cX3_look 64 = .ok (.getfield 39, 3) := by decide +kernel
theorem dX3_look_67 : decode cX3_look 67 = .ok (.aload_n 0, 1) := by decide +kernel
theorem dX3_look_68 : decode cX3_look 68 = .ok (.getfield 52, 3) := by decide +kernel
theorem dX3_look_71 : decode cX3_look 71 = .ok (.iconst 1, 1) := by decide +kernel
theorem dX3_look_72 : decode cX3_look 72 = .ok (.iadd, 1) := by decide +kernel
theorem dX3_look_73 : decode cX3_look 73 = .ok (.invokestatic 69, 3) := by decide +kernel
theorem dX3_look_76 : decode cX3_look 76 = .ok (.sipush 8191, 3) := by decide +kernel
theorem dX3_look_79 : decode cX3_look 79 = .ok (.iand, 1) := by decide +kernel
theorem dX3_look_80 : decode cX3_look 80 = .ok (.istore_n 3, 1) := by decide +kernel
theorem dX3_look_81 : decode cX3_look 81 = .ok (.aload_n 0, 1) := by decide +kernel
theorem dX3_look_82 : decode cX3_look 82 = .ok (.iload_n 3, 1) := by decide +kernel
theorem dX3_look_83 : decode cX3_look 83 = .ok (.invokevirtual 72, 3) := by decide +kernel
theorem dX3_look_86 : decode cX3_look 86 = .ok (.istore 4, 2) := by decide +kernel
theorem dX3_look_88 : decode cX3_look 88 = .ok (.iload 4, 2) := by decide +kernel
theorem dX3_look_90 : decode cX3_look 90 = .ok (.iconst (-1), 1) := by decide +kernel
theorem dX3_look_91 : decode cX3_look 91 = .ok (.if_icmp .ne 4, 3) := by decide +kernel
theorem dX3_look_94 : decode cX3_look 94 = .ok (.return_, 1) := by decide +kernel
theorem dX3_look_95 : decode cX3_look 95 = .ok (.aload_n 0, 1) := by decide +kernel
theorem dX3_look_96 : decode cX3_look 96 = .ok (.iload_n 3, 1) := by decide +kernel
theorem dX3_look_97 : decode cX3_look 97 = .ok (.invokevirtual 76, 3) := by decide +kernel
theorem dX3_look_100 : decode cX3_look 100 = .ok (.istore 5, 2) := by decide +kernel
theorem dX3_look_102 : decode cX3_look 102 = .ok (.iload 5, 2) := by decide +kernel
theorem dX3_look_104 : decode cX3_look 104 = .ok (.ifCond .ne 8, 3) := by decide +kernel
theorem dX3_look_107 : decode cX3_look 107 = .ok (.aload_n 0, 1) := by decide +kernel
theorem dX3_look_108 : decode cX3_look 108 = .ok (.iconst 3, 1) := by decide +kernel
theorem dX3_look_109 : decode cX3_look 109 = .ok (.invokevirtual 61, 3) := by decide +kernel
theorem dX3_look_112 : decode cX3_look 112 = .ok (.iload 4, 2) := by decide +kernel
theorem dX3_look_114 : decode cX3_look 114 = .ok (.iconst 4, 1) := by decide +kernel
theorem dX3_look_115 : decode cX3_look 115 = .ok (.if_icmp .lt 21, 3) := by decide +kernel
theorem dX3_look_118 : decode cX3_look 118 = .ok (.aload_n 0, 1) := by decide +kernel
theorem dX3_look_119 : decode cX3_look 119 = .ok (.aload_n 0, 1) := by decide +kernel
theorem dX3_look_120 : decode cX3_look 120 = .ok (.getfield 35, 3) := by decide +kernel
theorem dX3_look_123 : decode cX3_look 123 = .ok (.iload 4, 2) := by decide +kernel
theorem dX3_look_125 : decode cX3_look 125 = .ok (.iconst 4, 1) := by decide +kernel
theorem dX3_look_126 : decode cX3_look 126 = .ok (.isub, 1) := by decide +kernel
theorem dX3_look_127 : decode cX3_look 127 = .ok (.aaload, 1) := by decide +kernel
theorem dX3_look_128 : decode cX3_look 128 = .ok (.iload 5, 2) := by decide +kernel
theorem dX3_look_130 : decode cX3_look 130 = .ok (.invokevirtual 80, 3) := by decide +kernel
theorem dX3_look_133 : decode cX3_look 133 = .ok (.goto 18, 3) := by decide +kernel
theorem dX3_look_136 : decode cX3_look 136 = .ok (.aload_n 0, 1) := by decide +kernel
theorem dX3_look_137 : decode cX3_look 137 = .ok (.bipush 16, 2) := by decide +kernel
theorem dX3_look_139 : decode cX3_look 139 = .ok (.invokevirtual 84, 3) := by decide +kernel
theorem dX3_look_142 : decode cX3_look 142 = .ok (.ifCond .eq 9, 3) := by decide +kernel
theorem dX3_look_145 : decode cX3_look 145 = .ok (.aload_n 0, 1) := by decide +kernel
theorem dX3_look_146 : decode cX3_look 146 = .ok (.iload 4, 2) := by decide +kernel
theorem dX3_look_148 : decode cX3_look 148 = .ok (.invokevirtual 87, 3) := by decide +kernel
theorem dX3_look_151 : decode cX3_look 151 = .ok (.return_, 1) := by decide +kernel
theorem dX3_fault_0 : decode cX3_fault 0 = .ok (.aload_n 0, 1) := by decide +kernel
theorem dX3_fault_1 : decode cX3_fault 1 = .ok (.getfield 15, 3) := by decide +kernel
theorem dX3_fault_4 : decode cX3_fault 4 = .ok (.iload_n 1, 1) := by decide +kernel
theorem dX3_fault_5 : decode cX3_fault 5 = .ok (.dup2, 1) := by decide +kernel
theorem dX3_fault_6 : decode cX3_fault 6 = .ok (.iaload, 1) := by decide +kernel
theorem dX3_fault_7 : decode cX3_fault 7 = .ok (.iconst 1, 1) := by decide +kernel
theorem dX3_fault_8 : decode cX3_fault 8 = .ok (.iadd, 1) := by decide +kernel
theorem dX3_fault_9 : decode cX3_fault 9 = .ok (.iastore, 1) := by decide +kernel
theorem dX3_fault_10 : decode cX3_fault 10 = .ok (.aload_n 0, 1) := by decide +kernel
theorem dX3_fault_11 : decode cX3_fault 11 = .ok (.getfield 15, 3) := by decide +kernel
theorem dX3_fault_14 : decode cX3_fault 14 = .ok (.iconst 0, 1) := by decide +kernel
theorem dX3_fault_15 : decode cX3_fault 15 = .ok (.dup2, 1) := by decide +kernel
theorem dX3_fault_16 : decode cX3_fault 16 = .ok (.iaload, 1) := by decide +kernel
theorem dX3_fault_17 : decode cX3_fault 17 = .ok (.iconst 1, 1) := by decide +kernel
theorem dX3_fault_18 : decode cX3_fault 18 = .ok (.iadd, 1) := by decide +kernel
theorem dX3_fault_19 : decode cX3_fault 19 = .ok (.iastore, 1) := by decide +kernel
theorem dX3_fault_20 : decode cX3_fault 20 = .ok (.aload_n 0, 1) := by decide +kernel
theorem dX3_fault_21 : decode cX3_fault 21 = .ok (.getfield 22, 3) := by decide +kernel
theorem dX3_fault_24 : decode cX3_fault 24 = .ok (.iconst (-1), 1) := by decide +kernel
theorem dX3_fault_25 : decode cX3_fault 25 = .ok (.if_icmp .eq 4, 3) := by decide +kernel
theorem dX3_fault_28 : decode cX3_fault 28 = .ok (.return_, 1) := by decide +kernel
theorem dX3_fault_29 : decode cX3_fault 29 = .ok (.aload_n 0, 1) := by decide +kernel
theorem dX3_fault_30 : decode cX3_fault 30 = .ok (.iload_n 1, 1) := by decide +kernel
theorem dX3_fault_31 : decode cX3_fault 31 = .ok (.putfield 22, 3) := by decide +kernel
theorem dX3_fault_34 : decode cX3_fault 34 = .ok (.aload_n 0, 1) := by decide +kernel
theorem dX3_fault_35 : decode cX3_fault 35 = .ok (.aload_n 0, 1) := by decide +kernel
theorem dX3_fault_36 : decode cX3_fault 36 = .ok (.getfield 49, 3) := by decide +kernel
theorem dX3_fault_39 : decode cX3_fault 39 = .ok (.putfield 18, 3) := by decide +kernel
theorem dX3_fault_42 : decode cX3_fault 42 = .ok (.return_, 1) := by decide +kernel
theorem dX3_has_0 : decode cX3_has 0 = .ok (.aload_n 0, 1) := by decide +kernel
theorem dX3_has_1 : decode cX3_has 1 = .ok (.getfield 39, 3) := by decide +kernel
theorem dX3_has_4 : decode cX3_has 4 = .ok (.aload_n 0, 1) := by decide +kernel
theorem dX3_has_5 : decode cX3_has 5 = .ok (.getfield 52, 3) := by decide +kernel
theorem dX3_has_8 : decode cX3_has 8 = .ok (.iconst 3, 1) := by decide +kernel
theorem dX3_has_9 : decode cX3_has 9 = .ok (.iadd, 1) := by decide +kernel
theorem dX3_has_10 : decode cX3_has 10 = .ok (.baload, 1) := by decide +kernel
theorem dX3_has_11 : decode cX3_has 11 = .ok (.iload_n 1, 1) := by decide +kernel
theorem dX3_has_12 : decode cX3_has 12 = .ok (.iand, 1) := by decide +kernel
theorem dX3_has_13 : decode cX3_has 13 = .ok (.ifCond .eq 7, 3) := by decide +kernel
theorem dX3_has_16 : decode cX3_has 16 = .ok (.iconst 1, 1) := by decide +kernel
theorem dX3_has_17 : decode cX3_has 17 = .ok (.goto 4, 3) := by decide +kernel
theorem dX3_has_20 : decode cX3_has 20 = .ok (.iconst 0, 1) := by decide +kernel
theorem dX3_has_21 : decode cX3_has 21 = .ok (.ireturn, 1) := by decide +kernel
theorem dX3_hasClock_0 : decode cX3_hasClock 0 = .ok (.aload_n 0, 1) := by decide +kernel
theorem dX3_hasClock_1 : decode cX3_hasClock 1 = .ok (.bipush 32, 2) := by decide +kernel
theorem dX3_hasClock_3 : decode cX3_hasClock 3 = .ok (.invokevirtual 84, 3) := by decide +kernel
theorem dX3_hasClock_6 : decode cX3_hasClock 6 = .ok (.ifCond .eq 38, 3) := by decide +kernel
theorem dX3_hasClock_9 : decode cX3_hasClock 9 = .ok (.aload_n 0, 1) := by decide +kernel
theorem dX3_hasClock_10 : decode cX3_hasClock 10 = .ok (.getfield 39, 3) := by decide +kernel
theorem dX3_hasClock_13 : decode cX3_hasClock 13 = .ok (.aload_n 0, 1) := by decide +kernel
theorem dX3_hasClock_14 : decode cX3_hasClock 14 = .ok (.getfield 52, 3) := by decide +kernel
theorem dX3_hasClock_17 : decode cX3_hasClock 17 = .ok (.iconst 4, 1) := by decide +kernel
theorem dX3_hasClock_18 : decode cX3_hasClock 18 = .ok (.iadd, 1) := by decide +kernel
theorem dX3_hasClock_19 : decode cX3_hasClock 19 = .ok (.baload, 1) := by decide +kernel
theorem dX3_hasClock_20 : decode cX3_hasClock 20 = .ok (.ifCond .eq 24, 3) := by decide +kernel
theorem dX3_hasClock_23 : decode cX3_hasClock 23 = .ok (.aload_n 0, 1) := by decide +kernel
theorem dX3_hasClock_24 : decode cX3_hasClock 24 = .ok (.getfield 39, 3) := by decide +kernel
theorem dX3_hasClock_27 : decode cX3_hasClock 27 = .ok (.aload_n 0, 1) := by decide +kernel
theorem dX3_hasClock_28 : decode cX3_hasClock 28 = .ok (.getfield 52, 3) := by decide +kernel
theorem dX3_hasClock_31 : decode cX3_hasClock 31 = .ok (.iconst 5, 1) := by decide +kernel
theorem dX3_hasClock_32 : decode cX3_hasClock 32 = .ok (.iadd, 1) := by decide +kernel
theorem dX3_hasClock_33 : decode cX3_hasClock 33 = .ok (.baload, 1) := by decide +kernel
theorem dX3_hasClock_34 : decode cX3_hasClock 34 = .ok (.bipush 16, 2) := by decide +kernel
theorem dX3_hasClock_36 : decode cX3_hasClock 36 = .ok (.iand, 1) := by decide +kernel
theorem dX3_hasClock_37 : decode cX3_hasClock 37 = .ok (.ifCond .eq 7, 3) := by decide +kernel
theorem dX3_hasClock_40 : decode cX3_hasClock 40 = .ok (.iconst 1, 1) := by decide +kernel
theorem dX3_hasClock_41 : decode cX3_hasClock 41 = .ok (.goto 4, 3) := by decide +kernel
theorem dX3_hasClock_44 : decode cX3_hasClock 44 = .ok (.iconst 0, 1) := by decide +kernel
theorem dX3_hasClock_45 : decode cX3_hasClock 45 = .ok (.ireturn, 1) := by decide +kernel
theorem dX3_isFieldRight_0 : decode cX3_isFieldRight 0 = .ok (.aload_n 0, 1) := by decide +kernel
theorem dX3_isFieldRight_1 : decode cX3_isFieldRight 1 = .ok (.aload_n 0, 1) := by decide +kernel
theorem dX3_isFieldRight_2 : decode cX3_isFieldRight 2 = .ok (.getfield 52, 3) := by decide +kernel
theorem dX3_isFieldRight_5 : decode cX3_isFieldRight 5 = .ok (.iconst 4, 1) := by decide +kernel
theorem dX3_isFieldRight_6 : decode cX3_isFieldRight 6 = .ok (.iadd, 1) := by decide +kernel
theorem dX3_isFieldRight_7 : decode cX3_isFieldRight 7 = .ok (.putfield 90, 3) := by decide +kernel
theorem dX3_isFieldRight_10 : decode cX3_isFieldRight 10 = .ok (.aload_n 0, 1) := by decide +kernel
theorem dX3_isFieldRight_11 : decode cX3_isFieldRight 11 = .ok (.bipush 32, 2) := by decide +kernel
theorem dX3_isFieldRight_13 : decode cX3_isFieldRight 13 = .ok (.invokevirtual 84, 3) := by decide +kernel
theorem dX3_isFieldRight_16 : decode cX3_isFieldRight 16 = .ok (.ifCond .ne 10, 3) := by decide +kernel
theorem dX3_isFieldRight_19 : decode cX3_isFieldRight 19 = .ok (.aload_n 0, 1) := by decide +kernel
theorem dX3_isFieldRight_20 : decode cX3_isFieldRight 20 = .ok (.bipush 16, 2) := by decide +kernel
theorem dX3_isFieldRight_22 : decode cX3_isFieldRight 22 = .ok (.invokevirtual 84, 3) := by decide +kernel
theorem dX3_isFieldRight_25 : decode cX3_isFieldRight 25 = .ok (.ireturn, 1) := by decide +kernel
theorem dX3_isFieldRight_26 : decode cX3_isFieldRight 26 = .ok (.aload_n 0, 1) := by decide +kernel
theorem dX3_isFieldRight_27 : decode cX3_isFieldRight 27 = .ok (.getfield 39, 3) := by decide +kernel
theorem dX3_isFieldRight_30 : decode cX3_isFieldRight 30 = .ok (.aload_n 0, 1) := by decide +kernel
theorem dX3_isFieldRight_31 : decode cX3_isFieldRight 31 = .ok (.getfield 52, 3) := by decide +kernel
theorem dX3_isFieldRight_34 : decode cX3_isFieldRight 34 = .ok (.iconst 4, 1) := by decide +kernel
theorem dX3_isFieldRight_35 : decode cX3_isFieldRight 35 = .ok (.iadd, 1) := by decide +kernel
theorem dX3_isFieldRight_36 : decode cX3_isFieldRight 36 = .ok (.invokestatic 55, 3) := by decide +kernel
theorem dX3_isFieldRight_39 : decode cX3_isFieldRight 39 = .ok (.istore_n 1, 1) := by decide +kernel
theorem dX3_isFieldRight_40 : decode cX3_isFieldRight 40 = .ok (.iload_n 1, 1) := by decide +kernel
theorem dX3_isFieldRight_41 : decode cX3_isFieldRight 41 = .ok (.aload_n 0, 1) := by decide +kernel
theorem dX3_isFieldRight_42 : decode cX3_isFieldRight 42 = .ok (.bipush 16, 2) := by decide +kernel
theorem dX3_isFieldRight_44 : decode cX3_isFieldRight 44 = .ok (.invokevirtual 84, 3) := by decide +kernel
theorem dX3_isFieldRight_47 : decode cX3_isFieldRight 47 = .ok (.ifCond .eq 9, 3) := by decide +kernel
theorem dX3_isFieldRight_50 : decode cX3_isFieldRight 50 = .ok (.sipush 182, 3) := by decide +kernel
theorem dX3_isFieldRight_53 : decode cX3_isFieldRight 53 = .ok (.goto 6, 3) := by decide +kernel
theorem dX3_isFieldRight_56 : decode cX3_isFieldRight 56 = .ok (.sipush 183, 3) := by decide +kernel
theorem dX3_isFieldRight_59 : decode cX3_isFieldRight 59 = .ok (.if_icmp .le 5, 3) := by decide +kernel
theorem dX3_isFieldRight_62 : decode cX3_isFieldRight 62 = .ok (.iconst 0, 1) := by decide +kernel
theorem dX3_isFieldRight_63 : decode cX3_isFieldRight 63 = .ok (.ireturn, 1) := by decide +kernel
theorem dX3_isFieldRight_64 : decode cX3_isFieldRight 64 = .ok (.aload_n 0, 1) := by decide +kernel
theorem dX3_isFieldRight_65 : decode cX3_isFieldRight 65 = .ok (.dup, 1) := by decide +kernel
theorem dX3_isFieldRight_66 : decode cX3_isFieldRight 66 = .ok (.getfield 90, 3) := by decide +kernel
theorem dX3_isFieldRight_69 : decode cX3_isFieldRight 69 = .ok (.iconst 1, 1) := by decide +kernel
theorem dX3_isFieldRight_70 : decode cX3_isFieldRight 70 = .ok (.iload_n 1, 1) := by decide +kernel
theorem dX3_isFieldRight_71 : decode cX3_isFieldRight 71 = .ok (.iadd, 1) := by decide +kernel
theorem dX3_isFieldRight_72 : decode cX3_isFieldRight 72 = .ok (.iadd, 1) := by decide +kernel
theorem dX3_isFieldRight_73 : decode cX3_isFieldRight 73 = .ok (.putfield 90, 3) := by decide +kernel
theorem dX3_isFieldRight_76 : decode cX3_isFieldRight 76 = .ok (.iload_n 1, 1) := by decide +kernel
theorem dX3_isFieldRight_77 : decode cX3_isFieldRight 77 = .ok (.bipush 7, 2) := by decide +kernel
theorem dX3_isFieldRight_79 : decode cX3_isFieldRight 79 = .ok (.if_icmp .ge 10, 3) := by decide +kernel
theorem dX3_isFieldRight_82 : decode cX3_isFieldRight 82 = .ok (.aload_n 0, 1) := by decide +kernel
theorem dX3_isFieldRight_83 : decode cX3_isFieldRight 83 = .ok (.invokevirtual 93, 3) := by decide +kernel
theorem dX3_isFieldRight_86 : decode cX3_isFieldRight 86 = .ok (.ifCond .ne 7, 3) := by decide +kernel
theorem dX3_isFieldRight_89 : decode cX3_isFieldRight 89 = .ok (.iconst 1, 1) := by decide +kernel
theorem dX3_isFieldRight_90 : decode cX3_isFieldRight 90 = .ok (.goto 4, 3) := by decide +kernel
theorem dX3_isFieldRight_93 : decode cX3_isFieldRight 93 = .ok (.iconst 0, 1) := by decide +kernel
theorem dX3_isFieldRight_94 : decode cX3_isFieldRight 94 = .ok (.ireturn, 1) := by decide +kernel
theorem dX3_ownerOf_0 : decode cX3_ownerOf 0 = .ok (.iload_n 1, 1) := by decide +kernel
theorem dX3_ownerOf_1 : decode cX3_ownerOf 1 = .ok (.ifCond .ne 5, 3) := by decide +kernel
theorem dX3_ownerOf_4 : decode cX3_ownerOf 4 = .ok (.iconst 0, 1) := by decide +kernel
theorem dX3_ownerOf_5 : decode cX3_ownerOf 5 = .ok (.ireturn, 1) := by decide +kernel
theorem dX3_ownerOf_6 : decode cX3_ownerOf 6 = .ok (.iconst 0, 1) := by decide +kernel
theorem dX3_ownerOf_7 : decode cX3_ownerOf 7 = .ok (.istore_n 2, 1) := by decide +kernel
theorem dX3_ownerOf_8 : decode cX3_ownerOf 8 = .ok (.iload_n 2, 1) := by decide +kernel
theorem dX3_ownerOf_9 : decode cX3_ownerOf 9 = .ok (.iconst 3, 1) := by decide +kernel
theorem dX3_ownerOf_10 : decode cX3_ownerOf 10 = .ok (.if_icmp .ge 26, 3) := by decide +kernel
theorem dX3_ownerOf_13 : decode cX3_ownerOf 13 = .ok (.aload_n 0, 1) := by decide +kernel
theorem dX3_ownerOf_14 : decode cX3_ownerOf 14 = .ok (.getfield 35, 3) := by decide +kernel
theorem dX3_ownerOf_17 : decode cX3_ownerOf 17 = .ok (.iload_n 2, 1) := by decide +kernel
theorem dX3_ownerOf_18 : decode cX3_ownerOf 18 = .ok (.aaload, 1) := by decide +kernel
theorem dX3_ownerOf_19 : decode cX3_ownerOf 19 = .ok (.getfield 96, 3) := by decide +kernel
theorem dX3_ownerOf_22 : decode cX3_ownerOf 22 = .ok (.iload_n 1, 1) := by decide +kernel
theorem dX3_ownerOf_23 : decode cX3_ownerOf 23 = .ok (.if_icmp .ne 7, 3) := by decide +kernel
theorem dX3_ownerOf_26 : decode cX3_ownerOf 26 = .ok (.iconst 1, 1) := by decide +kernel
theorem dX3_ownerOf_27 : decode cX3_ownerOf 27 = .ok (.iload_n 2, 1) := by decide +kernel
theorem dX3_ownerOf_28 : decode cX3_ownerOf 28 = .ok (.iadd, 1) := by decide +kernel
theorem dX3_ownerOf_29 : decode cX3_ownerOf 29 = .ok (.ireturn, 1) := by decide +kernel
theorem dX3_ownerOf_30 : decode cX3_ownerOf 30 = .ok (.iinc 2 1, 3) := by decide +kernel
theorem dX3_ownerOf_33 : decode cX3_ownerOf 33 = .ok (.goto (-25), 3) := by decide +kernel
theorem dX3_ownerOf_36 : decode cX3_ownerOf 36 = .ok (.iconst 0, 1) := by decide +kernel
theorem dX3_ownerOf_37 : decode cX3_ownerOf 37 = .ok (.istore_n 2, 1) := by decide +kernel
theorem dX3_ownerOf_38 : decode cX3_ownerOf 38 = .ok (.iload_n 2, 1) := by decide +kernel
theorem dX3_ownerOf_39 : decode cX3_ownerOf 39 = .ok (.iconst 3, 1) := by decide +kernel
theorem dX3_ownerOf_40 : decode cX3_ownerOf 40 = .ok (.if_icmp .ge 26, 3) := by decide +kernel
theorem dX3_ownerOf_43 : decode cX3_ownerOf 43 = .ok (.aload_n 0, 1) := by decide +kernel
theorem dX3_ownerOf_44 : decode cX3_ownerOf 44 = .ok (.getfield 35, 3) := by decide +kernel
theorem dX3_ownerOf_47 : decode cX3_ownerOf 47 = .ok (.iload_n 2, 1) := by decide +kernel
theorem dX3_ownerOf_48 : decode cX3_ownerOf 48 = .ok (.aaload, 1) := by decide +kernel
theorem dX3_ownerOf_49 : decode cX3_ownerOf 49 = .ok (.getfield 101, 3) := by decide +kernel
theorem dX3_ownerOf_52 : decode cX3_ownerOf 52 = .ok (.iload_n 1, 1) := by decide +kernel
theorem dX3_ownerOf_53 : decode cX3_ownerOf 53 = .ok (.if_icmp .ne 7, 3) := by decide +kernel
theorem dX3_ownerOf_56 : decode cX3_ownerOf 56 = .ok (.iconst 4, 1) := by decide +kernel
theorem dX3_ownerOf_57 : decode cX3_ownerOf 57 = .ok (.iload_n 2, 1) := by decide +kernel
theorem dX3_ownerOf_58 : decode cX3_ownerOf 58 = .ok (.iadd, 1) := by decide +kernel
theorem dX3_ownerOf_59 : decode cX3_ownerOf 59 = .ok (.ireturn, 1) := by decide +kernel
theorem dX3_ownerOf_60 : decode cX3_ownerOf 60 = .ok (.iinc 2 1, 3) := by decide +kernel
theorem dX3_ownerOf_63 : decode cX3_ownerOf 63 = .ok (.goto (-25), 3) := by decide +kernel
theorem dX3_ownerOf_66 : decode cX3_ownerOf 66 = .ok (.iconst (-1), 1) := by decide +kernel
theorem dX3_ownerOf_67 : decode cX3_ownerOf 67 = .ok (.ireturn, 1) := by decide +kernel
theorem dX3_isCounterRight_0 : decode cX3_isCounterRight 0 = .ok (.aload_n 0, 1) := by decide +kernel
theorem dX3_isCounterRight_1 : decode cX3_isCounterRight 1 = .ok (.getfield 11, 3) := by decide +kernel
theorem dX3_isCounterRight_4 : decode cX3_isCounterRight 4 = .ok (.iload_n 1, 1) := by decide +kernel
theorem dX3_isCounterRight_5 : decode cX3_isCounterRight 5 = .ok (.iaload, 1) := by decide +kernel
theorem dX3_isCounterRight_6 : decode cX3_isCounterRight 6 = .ok (.istore_n 2, 1) := by decide +kernel
theorem dX3_isCounterRight_7 : decode cX3_isCounterRight 7 = .ok (.aload_n 0, 1) := by decide +kernel
theorem dX3_isCounterRight_8 : decode cX3_isCounterRight 8 = .ok (.getfield 39, 3) := by decide +kernel
theorem dX3_isCounterRight_11 : decode cX3_isCounterRight 11 = .ok (.aload_n 0, 1) := by decide +kernel
theorem dX3_isCounterRight_12 : decode cX3_isCounterRight 12 = .ok (.getfield 52, 3) := by decide +kernel
theorem dX3_isCounterRight_15 : decode cX3_isCounterRight 15 = .ok (.iconst 3, 1) := by decide +kernel
theorem dX3_isCounterRight_16 : decode cX3_isCounterRight 16 = .ok (.iadd, 1) := by decide +kernel
theorem dX3_isCounterRight_17 : decode cX3_isCounterRight 17 = .ok (.baload, 1) := by decide +kernel
theorem dX3_isCounterRight_18 : decode cX3_isCounterRight 18 = .ok (.bipush 15, 2) := by decide +kernel
theorem dX3_isCounterRight_20 : decode cX3_isCounterRight 20 = .ok (.iand, 1) := by decide +kernel
theorem dX3_isCounterRight_21 : decode cX3_isCounterRight 21 = .ok (.istore_n 3, 1) := by decide +kernel
theorem dX3_isCounterRight_22 : decode cX3_isCounterRight 22 = .ok (.aload_n 0, 1) := by decide +kernel
theorem dX3_isCounterRight_23 : decode cX3_isCounterRight 23 = .ok (.getfield 11, 3) := by decide +kernel
theorem dX3_isCounterRight_26 : decode cX3_isCounterRight 26 = .ok (.iload_n 1, 1) := by decide +kernel
theorem dX3_isCounterRight_27 : decode cX3_isCounterRight 27 = .ok (.iload_n 3, 1) := by decide +kernel
theorem dX3_isCounterRight_28 : decode cX3_isCounterRight 28 = .ok (.iastore, 1) := by decide +kernel
theorem dX3_isCounterRight_29 : decode cX3_isCounterRight 29 = .ok (.iload_n 2, 1) := by decide +kernel
theorem dX3_isCounterRight_30 : decode cX3_isCounterRight 30 = .ok (.iconst (-1), 1) := by decide +kernel
theorem dX3_isCounterRight_31 : decode cX3_isCounterRight 31 = .ok (.if_icmp .ne 5, 3) := by decide +kernel
theorem dX3_isCounterRight_34 : decode cX3_isCounterRight 34 = .ok (.iconst 1, 1) := by decide +kernel
theorem dX3_isCounterRight_35 : decode cX3_isCounterRight 35 = .ok (.ireturn, 1) := by decide +kernel
theorem dX3_isCounterRight_36 : decode cX3_isCounterRight 36 = .ok (.iload_n 3, 1) := by decide +kernel
theorem dX3_isCounterRight_37 : decode cX3_isCounterRight 37 = .ok (.aload_n 0, 1) := by decide +kernel
theorem dX3_isCounterRight_38 : decode cX3_isCounterRight 38 = .ok (.bipush 16, 2) := by decide +kernel
theorem dX3_isCounterRight_40 : decode cX3_isCounterRight 40 = .ok (.invokevirtual 84, 3) := by decide +kernel
theorem dX3_isCounterRight_43 : decode cX3_isCounterRight 43 = .ok (.ifCond .eq 12, 3) := by decide +kernel
theorem dX3_isCounterRight_46 : decode cX3_isCounterRight 46 = .ok (.iload_n 2, 1) := by decide +kernel
theorem dX3_isCounterRight_47 : decode cX3_isCounterRight 47 = .ok (.iconst 1, 1) := by decide +kernel
theorem dX3_isCounterRight_48 : decode cX3_isCounterRight 48 = .ok (.iadd, 1) := by decide +kernel
theorem dX3_isCounterRight_49 : decode cX3_isCounterRight 49 = .ok (.bipush 15, 2) := by decide +kernel
theorem dX3_isCounterRight_51 : decode cX3_isCounterRight 51 = .ok (.iand, 1) := by decide +kernel
theorem dX3_isCounterRight_52 : decode cX3_isCounterRight 52 = .ok (.goto 4, 3) := by decide +kernel
theorem dX3_isCounterRight_55 : decode cX3_isCounterRight 55 = .ok (.iload_n 2, 1) := by decide +kernel
theorem dX3_isCounterRight_56 : decode cX3_isCounterRight 56 = .ok (.if_icmp .ne 7, 3) := by decide +kernel
theorem dX3_isCounterRight_59 : decode cX3_isCounterRight 59 = .ok (.iconst 1, 1) := by decide +kernel
theorem dX3_isCounterRight_60 : decode cX3_isCounterRight 60 = .ok (.goto 4, 3) := by decide +kernel
theorem dX3_isCounterRight_63 : decode cX3_isCounterRight 63 = .ok (.iconst 0, 1) := by decide +kernel
theorem dX3_isCounterRight_64 : decode cX3_isCounterRight 64 = .ok (.ireturn, 1) := by decide +kernel
theorem dX3_lookAtChannel_0 : decode cX3_lookAtChannel 0 = .ok (.iload_n 2, 1) := by decide +kernel
theorem dX3_lookAtChannel_1 : decode cX3_lookAtChannel 1 = .ok (.ifCond .ne 7, 3) := by decide +kernel
theorem dX3_lookAtChannel_4 : decode cX3_lookAtChannel 4 = .ok (.aload_n 1, 1) := by decide +kernel
theorem dX3_lookAtChannel_5 : decode cX3_lookAtChannel 5 = .ok (.invokevirtual 104, 3) := by decide +kernel
theorem dX3_lookAtChannel_8 : decode cX3_lookAtChannel 8 = .ok (.aload_n 0, 1) := by decide +kernel
theorem dX3_lookAtChannel_9 : decode cX3_lookAtChannel 9 = .ok (.invokevirtual 93, 3) := by decide +kernel
theorem dX3_lookAtChannel_12 : decode cX3_lookAtChannel 12 = .ok (.ifCond .eq 8, 3) := by decide +kernel
theorem dX3_lookAtChannel_15 : decode cX3_lookAtChannel 15 = .ok (.aload_n 0, 1) := by decide +kernel
theorem dX3_lookAtChannel_16 : decode cX3_lookAtChannel 16 = .ok (.aload_n 1, 1) := by decide +kernel
theorem dX3_lookAtChannel_17 : decode cX3_lookAtChannel 17 = .ok (.invokevirtual 107, 3) := by decide +kernel
theorem dX3_lookAtChannel_20 : decode cX3_lookAtChannel 20 = .ok (.aload_n 0, 1) := by decide +kernel
theorem dX3_lookAtChannel_21 : decode cX3_lookAtChannel 21 = .ok (.bipush 16, 2) := by decide +kernel
theorem dX3_lookAtChannel_23 : decode cX3_lookAtChannel 23 = .ok (.invokevirtual 84, 3) := by decide +kernel
theorem dX3_lookAtChannel_26 : decode cX3_lookAtChannel 26 = .ok (.ifCond .ne 4, 3) := by decide +kernel
theorem dX3_lookAtChannel_29 : decode cX3_lookAtChannel 29 = .ok (.return_, 1) := by decide +kernel
theorem dX3_lookAtChannel_30 : decode cX3_lookAtChannel 30 = .ok (.aload_n 0, 1) := by decide +kernel
theorem dX3_lookAtChannel_31 : decode cX3_lookAtChannel 31 = .ok (.getfield 39, 3) := by decide +kernel
theorem dX3_lookAtChannel_34 : decode cX3_lookAtChannel 34 = .ok (.aload_n 0, 1) := by decide +kernel
theorem dX3_lookAtChannel_35 : decode cX3_lookAtChannel 35 = .ok (.getfield 52, 3) := by decide +kernel
theorem dX3_lookAtChannel_38 : decode cX3_lookAtChannel 38 = .ok (.iconst 1, 1) := by decide +kernel
theorem dX3_lookAtChannel_39 : decode cX3_lookAtChannel 39 = .ok (.iadd, 1) := by decide +kernel
theorem dX3_lookAtChannel_40 : decode cX3_lookAtChannel 40 = .ok (.baload, 1) := by decide +kernel
theorem dX3_lookAtChannel_41 : decode cX3_lookAtChannel 41 = .ok (.bipush 64, 2) := by decide +kernel
theorem dX3_lookAtChannel_43 : decode cX3_lookAtChannel 43 = .ok (.iand, 1) := by decide +kernel
theorem dX3_lookAtChannel_44 : decode cX3_lookAtChannel 44 = .ok (.ifCond .eq 23, 3) := by decide +kernel
theorem dX3_lookAtChannel_47 : decode cX3_lookAtChannel 47 = .ok (.aload_n 1, 1) := by decide +kernel
theorem dX3_lookAtChannel_48 : decode cX3_lookAtChannel 48 = .ok (.invokevirtual 111, 3) := by decide +kernel
theorem dX3_lookAtChannel_51 : decode cX3_lookAtChannel 51 = .ok (.ifCond .eq 9, 3) := by decide +kernel
theorem dX3_lookAtChannel_54 : decode cX3_lookAtChannel 54 = .ok (.aload_n 0, 1) := by decide +kernel
theorem dX3_lookAtChannel_55 : decode cX3_lookAtChannel 55 = .ok (.bipush 7, 2) := by decide +kernel
theorem dX3_lookAtChannel_57 : decode cX3_lookAtChannel 57 = .ok (.invokevirtual 61, 3) := by decide +kernel
theorem dX3_lookAtChannel_60 : decode cX3_lookAtChannel 60 = .ok (.aload_n 1, 1) := by decide +kernel
theorem dX3_lookAtChannel_61 : decode cX3_lookAtChannel 61 = .ok (.invokevirtual 104, 3) := by decide +kernel
theorem dX3_lookAtChannel_64 : decode cX3_lookAtChannel 64 = .ok (.goto 11, 3) := by decide +kernel
theorem dX3_lookAtChannel_67 : decode cX3_lookAtChannel 67 = .ok (.aload_n 1, 1) := by decide +kernel
theorem dX3_lookAtChannel_68 : decode cX3_lookAtChannel 68 = .ok (.invokevirtual 111, 3) := by decide +kernel
theorem dX3_lookAtChannel_71 : decode cX3_lookAtChannel 71 = .ok (.ifCond .ne 4, 3) := by decide +kernel
theorem dX3_lookAtChannel_74 : decode cX3_lookAtChannel 74 = .ok (.return_, 1) := by decide +kernel
theorem dX3_lookAtChannel_75 : decode cX3_lookAtChannel 75 = .ok (.aload_n 1, 1) := by decide +kernel
theorem dX3_lookAtChannel_76 : decode cX3_lookAtChannel 76 = .ok (.aload_n 0, 1) := by decide +kernel
theorem dX3_lookAtChannel_77 : decode cX3_lookAtChannel 77 = .ok (.getfield 39, 3) := by decide +kernel
theorem dX3_lookAtChannel_80 : decode cX3_lookAtChannel 80 = .ok (.aload_n 0, 1) := by decide +kernel
theorem dX3_lookAtChannel_81 : decode cX3_lookAtChannel 81 = .ok (.getfield 90, 3) := by decide +kernel
theorem dX3_lookAtChannel_84 : decode cX3_lookAtChannel 84 = .ok (.aload_n 0, 1) := by decide +kernel
theorem dX3_lookAtChannel_85 : decode cX3_lookAtChannel 85 = .ok (.getfield 52, 3) := by decide +kernel
theorem dX3_lookAtChannel_88 : decode cX3_lookAtChannel 88 = .ok (.sipush 188, 3) := by decide +kernel
theorem dX3_lookAtChannel_91 : decode cX3_lookAtChannel 91 = .ok (.iadd, 1) := by decide +kernel
theorem dX3_lookAtChannel_92 : decode cX3_lookAtChannel 92 = .ok (.aload_n 0, 1) := by decide +kernel
theorem dX3_lookAtChannel_93 : decode cX3_lookAtChannel 93 = .ok (.getfield 90, 3) := by decide +kernel
theorem dX3_lookAtChannel_96 : decode cX3_lookAtChannel 96 = .ok (.isub, 1) := by decide +kernel
theorem dX3_lookAtChannel_97 : decode cX3_lookAtChannel 97 = .ok (.invokevirtual 114, 3) := by decide +kernel
theorem dX3_lookAtChannel_100 : decode cX3_lookAtChannel 100 = .ok (.istore_n 3, 1) := by decide +kernel
theorem dX3_lookAtChannel_101 : decode cX3_lookAtChannel 101 = .ok (.iload_n 3, 1) := by decide +kernel
theorem dX3_lookAtChannel_102 : decode cX3_lookAtChannel 102 = .ok (.ifCond .eq 19, 3) := by decide +kernel
theorem dX3_lookAtChannel_105 : decode cX3_lookAtChannel 105 = .ok (.aload_n 1, 1) := by decide +kernel
theorem dX3_lookAtChannel_106 : decode cX3_lookAtChannel 106 = .ok (.invokevirtual 118, 3) := by decide +kernel
theorem dX3_lookAtChannel_109 : decode cX3_lookAtChannel 109 = .ok (.ifCond .eq 12, 3) := by decide +kernel
theorem dX3_lookAtChannel_112 : decode cX3_lookAtChannel 112 = .ok (.aload_n 1, 1) := by decide +kernel
theorem dX3_lookAtChannel_113 : decode cX3_lookAtChannel 113 = .ok (.aload_n 0, 1) := by decide +kernel
theorem dX3_lookAtChannel_114 : decode cX3_lookAtChannel 114 = .ok (.getfield 121, 3) := by decide +kernel
theorem dX3_lookAtChannel_117 : decode cX3_lookAtChannel 117 = .ok (.invokevirtual 124, 3) := by decide +kernel
theorem dX3_lookAtChannel_120 : decode cX3_lookAtChannel 120 = .ok (.istore_n 3, 1) := by decide +kernel
theorem dX3_lookAtChannel_121 : decode cX3_lookAtChannel 121 = .ok (.iload_n 3, 1) := by decide +kernel
theorem dX3_lookAtChannel_122 : decode cX3_lookAtChannel 122 = .ok (.ifCond .ne 9, 3) := by decide +kernel
theorem dX3_lookAtChannel_125 : decode cX3_lookAtChannel 125 = .ok (.aload_n 0, 1) := by decide +kernel
theorem dX3_lookAtChannel_126 : decode cX3_lookAtChannel 126 = .ok (.bipush 8, 2) := by decide +kernel
theorem dX3_lookAtChannel_128 : decode cX3_lookAtChannel 128 = .ok (.invokevirtual 61, 3) := by decide +kernel
theorem dX3_lookAtChannel_131 : decode cX3_lookAtChannel 131 = .ok (.return_, 1) := by decide +kernel
theorem dX3_lookAtClock_0 : decode cX3_lookAtClock 0 = .ok (.aload_n 0, 1) := by decide +kernel
theorem dX3_lookAtClock_1 : decode cX3_lookAtClock 1 = .ok (.getfield 39, 3) := by decide +kernel
theorem dX3_lookAtClock_4 : decode cX3_lookAtClock 4 = .ok (.aload_n 0, 1) := by decide +kernel
theorem dX3_lookAtClock_5 : decode cX3_lookAtClock 5 = .ok (.getfield 52, 3) := by decide +kernel
theorem dX3_lookAtClock_8 : decode cX3_lookAtClock 8 = .ok (.bipush 6, 2) := by decide +kernel
theorem dX3_lookAtClock_10 : decode cX3_lookAtClock 10 = .ok (.iadd, 1) := by decide +kernel
theorem dX3_lookAtClock_11 : decode cX3_lookAtClock 11 = .ok (.invokestatic 69, 3) := by decide +kernel
theorem dX3_lookAtClock_14 : decode cX3_lookAtClock 14 = .ok (.i2l, 1) := by decide +kernel
theorem dX3_lookAtClock_15 : decode cX3_lookAtClock 15 = .ok (.bipush 32, 2) := by decide +kernel
theorem dX3_lookAtClock_17 : decode cX3_lookAtClock 17 = .ok (.lshl, 1) := by decide +kernel
theorem dX3_lookAtClock_18 : decode cX3_lookAtClock 18 = .ok (.aload_n 0, 1) := by decide +kernel
theorem dX3_lookAtClock_19 : decode cX3_lookAtClock 19 = .ok (.getfield 39, 3) := by decide +kernel
theorem dX3_lookAtClock_22 : decode cX3_lookAtClock 22 = .ok (.aload_n 0, 1) := by decide +kernel
theorem dX3_lookAtClock_23 : decode cX3_lookAtClock 23 = .ok (.getfield 52, 3) := by decide +kernel
theorem dX3_lookAtClock_26 : decode cX3_lookAtClock 26 = .ok (.bipush 8, 2) := by decide +kernel
theorem dX3_lookAtClock_28 : decode cX3_lookAtClock 28 = .ok (.iadd, 1) := by decide +kernel
theorem dX3_lookAtClock_29 : decode cX3_lookAtClock 29 = .ok (.invokestatic 127, 3) := by decide +kernel
theorem dX3_lookAtClock_32 : decode cX3_lookAtClock 32 = .ok (.i2l, 1) := by decide +kernel
theorem dX3_lookAtClock_33 : decode cX3_lookAtClock 33 = .ok (.ldc2_w 130, 3) := by decide +kernel
theorem dX3_lookAtClock_36 : decode cX3_lookAtClock 36 = .ok (.land, 1) := by decide +kernel
theorem dX3_lookAtClock_37 : decode cX3_lookAtClock 37 = .ok (.lor, 1) := by decide +kernel
theorem dX3_lookAtClock_38 : decode cX3_lookAtClock 38 = .ok (.lstore_n 2, 1) := by decide +kernel
theorem dX3_lookAtClock_39 : decode cX3_lookAtClock 39 = .ok (.lload_n 2, 1) := by decide +kernel
theorem dX3_lookAtClock_40 : decode cX3_lookAtClock 40 = .ok (.aload_n 0, 1) := by decide +kernel
theorem dX3_lookAtClock_41 : decode cX3_lookAtClock 41 = .ok (.getfield 49, 3) := by decide +kernel
theorem dX3_lookAtClock_44 : decode cX3_lookAtClock 44 = .ok (.aload_n 0, 1) := by decide +kernel
theorem dX3_lookAtClock_45 : decode cX3_lookAtClock 45 = .ok (.getfield 28, 3) := by decide +kernel
theorem dX3_lookAtClock_48 : decode cX3_lookAtClock 48 = .ok (.aload_n 0, 1) := by decide +kernel
theorem dX3_lookAtClock_49 : decode cX3_lookAtClock 49 = .ok (.getfield 31, 3) := by decide +kernel
theorem dX3_lookAtClock_52 : decode cX3_lookAtClock 52 = .ok (.invokestatic 132, 3) := by decide +kernel
theorem dX3_lookAtClock_55 : decode cX3_lookAtClock 55 = .ok (.lcmp, 1) := by decide +kernel
theorem dX3_lookAtClock_56 : decode cX3_lookAtClock 56 = .ok (.ifCond .eq 8, 3) := by decide +kernel
theorem dX3_lookAtClock_59 : decode cX3_lookAtClock 59 = .ok (.aload_n 0, 1) := by decide +kernel
theorem dX3_lookAtClock_60 : decode cX3_lookAtClock 60 = .ok (.iconst 4, 1) := by decide +kernel
theorem dX3_lookAtClock_61 : decode cX3_lookAtClock 61 = .ok (.invokevirtual 61, 3) := by decide +kernel
theorem dX3_lookAtClock_64 : decode cX3_lookAtClock 64 = .ok (.aload_n 1, 1) := by decide +kernel
theorem dX3_lookAtClock_65 : decode cX3_lookAtClock 65 = .ok (.getfield 136, 3) := by decide +kernel
theorem dX3_lookAtClock_68 : decode cX3_lookAtClock 68 = .ok (.iconst (-1), 1) := by decide +kernel
theorem dX3_lookAtClock_69 : decode cX3_lookAtClock 69 = .ok (.if_icmp .eq 26, 3) := by decide +kernel
theorem dX3_lookAtClock_72 : decode cX3_lookAtClock 72 = .ok (.aload_n 0, 1) := by decide +kernel
theorem dX3_lookAtClock_73 : decode cX3_lookAtClock 73 = .ok (.getfield 49, 3) := by decide +kernel
theorem dX3_lookAtClock_76 : decode cX3_lookAtClock 76 = .ok (.aload_n 1, 1) := by decide +kernel
theorem dX3_lookAtClock_77 : decode cX3_lookAtClock 77 = .ok (.getfield 136, 3) := by decide +kernel
theorem dX3_lookAtClock_80 : decode cX3_lookAtClock 80 = .ok (.isub, 1) := by decide +kernel
theorem dX3_lookAtClock_81 : decode cX3_lookAtClock 81 = .ok (.iconst 3, 1) := by decide +kernel
theorem dX3_lookAtClock_82 : decode cX3_lookAtClock 82 = .ok (.aload_n 0, 1) := by decide +kernel
theorem dX3_lookAtClock_83 : decode cX3_lookAtClock 83 = .ok (.getfield 28, 3) := by decide +kernel
theorem dX3_lookAtClock_86 : decode cX3_lookAtClock 86 = .ok (.imul, 1) := by decide +kernel
theorem dX3_lookAtClock_87 : decode cX3_lookAtClock 87 = .ok (.if_icmp .le 8, 3) := by decide +kernel
theorem dX3_lookAtClock_90 : decode cX3_lookAtClock 90 = .ok (.aload_n 0, 1) := by decide +kernel
theorem dX3_lookAtClock_91 : decode cX3_lookAtClock 91 = .ok (.iconst 5, 1) := by decide +kernel
theorem dX3_lookAtClock_92 : decode cX3_lookAtClock 92 = .ok (.invokevirtual 61, 3) := by decide +kernel
theorem dX3_lookAtClock_95 : decode cX3_lookAtClock 95 = .ok (.aload_n 1, 1) := by decide +kernel
theorem dX3_lookAtClock_96 : decode cX3_lookAtClock 96 = .ok (.aload_n 0, 1) := by decide +kernel
theorem dX3_lookAtClock_97 : decode cX3_lookAtClock 97 = .ok (.getfield 49, 3) := by decide +kernel
theorem dX3_lookAtClock_100 : decode cX3_lookAtClock 100 = .ok (.putfield 136, 3) := by decide +kernel
theorem dX3_lookAtClock_103 : decode cX3_lookAtClock 103 = .ok (.return_, 1) := by decide +kernel
theorem dX3_lookAtTable_0 : decode cX3_lookAtTable 0 = .ok (.aload_n 0, 1) := by decide +kernel
theorem dX3_lookAtTable_1 : decode cX3_lookAtTable 1 = .ok (.getfield 90, 3) := by decide +kernel
theorem dX3_lookAtTable_4 : decode cX3_lookAtTable 4 = .ok (.iconst 1, 1) := by decide +kernel
theorem dX3_lookAtTable_5 : decode cX3_lookAtTable 5 = .ok (.iadd, 1) := by decide +kernel
theorem dX3_lookAtTable_6 : decode cX3_lookAtTable 6 = .ok (.istore_n 2, 1) := by decide +kernel
theorem dX3_lookAtTable_7 : decode cX3_lookAtTable 7 = .ok (.aload_n 0, 1) := by decide +kernel
theorem dX3_lookAtTable_8 : decode cX3_lookAtTable 8 = .ok (.iload_n 1, 1) := by decide +kernel
theorem dX3_lookAtTable_9 : decode cX3_lookAtTable 9 = .ok (.iload_n 2, 1) := by decide +kernel
theorem dX3_lookAtTable_10 : decode cX3_lookAtTable 10 = .ok (.invokevirtual 139, 3) := by decide +kernel
theorem dX3_lookAtTable_13 : decode cX3_lookAtTable 13 = .ok (.ifCond .ne 12, 3) := by decide +kernel
theorem dX3_lookAtTable_16 : decode cX3_lookAtTable 16 = .ok (.aload_n 0, 1) := by decide +kernel
theorem dX3_lookAtTable_17 : decode cX3_lookAtTable 17 = .ok (.bipush 6, 2) := by decide +kernel
theorem dX3_lookAtTable_19 : decode cX3_lookAtTable 19 = .ok (.invokevirtual 61, 3) := by decide +kernel
theorem dX3_lookAtTable_22 : decode cX3_lookAtTable 22 = .ok (.goto 41, 3) := by decide +kernel
theorem dX3_lookAtTable_25 : decode cX3_lookAtTable 25 = .ok (.iload_n 1, 1) := by decide +kernel
theorem dX3_lookAtTable_26 : decode cX3_lookAtTable 26 = .ok (.ifCond .ne 11, 3) := by decide +kernel
theorem dX3_lookAtTable_29 : decode cX3_lookAtTable 29 = .ok (.aload_n 0, 1) := by decide +kernel
theorem dX3_lookAtTable_30 : decode cX3_lookAtTable 30 = .ok (.iload_n 2, 1) := by decide +kernel
theorem dX3_lookAtTable_31 : decode cX3_lookAtTable 31 = .ok (.invokevirtual 143, 3) := by decide +kernel
theorem dX3_lookAtTable_34 : decode cX3_lookAtTable 34 = .ok (.goto 29, 3) := by decide +kernel
theorem dX3_lookAtTable_37 : decode cX3_lookAtTable 37 = .ok (.aload_n 0, 1) := by decide +kernel
theorem dX3_lookAtTable_38 : decode cX3_lookAtTable 38 = .ok (.getfield 35, 3) := by decide +kernel
theorem dX3_lookAtTable_41 : decode cX3_lookAtTable 41 = .ok (.iload_n 1, 1) := by decide +kernel
theorem dX3_lookAtTable_42 : decode cX3_lookAtTable 42 = .ok (.iconst 1, 1) := by decide +kernel
theorem dX3_lookAtTable_43 : decode cX3_lookAtTable 43 = .ok (.isub, 1) := by decide +kernel
theorem dX3_lookAtTable_44 : decode cX3_lookAtTable 44 = .ok (.aaload, 1) := by decide +kernel
theorem dX3_lookAtTable_45 : decode cX3_lookAtTable 45 = .ok (.aload_n 0, 1) := by decide +kernel
theorem dX3_lookAtTable_46 : decode cX3_lookAtTable 46 = .ok (.getfield 39, 3) := by decide +kernel
theorem dX3_lookAtTable_49 : decode cX3_lookAtTable 49 = .ok (.iload_n 2, 1) := by decide +kernel
theorem dX3_lookAtTable_50 : decode cX3_lookAtTable 50 = .ok (.bipush 13, 2) := by decide +kernel
theorem dX3_lookAtTable_52 : decode cX3_lookAtTable 52 = .ok (.iadd, 1) := by decide +kernel
theorem dX3_lookAtTable_53 : decode cX3_lookAtTable 53 = .ok (.invokestatic 69, 3) := by decide +kernel
theorem dX3_lookAtTable_56 : decode cX3_lookAtTable 56 = .ok (.sipush 8191, 3) := by decide +kernel
theorem dX3_lookAtTable_59 : decode cX3_lookAtTable 59 = .ok (.iand, 1) := by decide +kernel
theorem dX3_lookAtTable_60 : decode cX3_lookAtTable 60 = .ok (.invokevirtual 146, 3) := by decide +kernel
theorem dX3_lookAtTable_63 : decode cX3_lookAtTable 63 = .ok (.return_, 1) := by decide +kernel
theorem dX3_isTableRight_0 : decode cX3_isTableRight 0 = .ok (.aload_n 0, 1) := by decide +kernel
theorem dX3_isTableRight_1 : decode cX3_isTableRight 1 = .ok (.getfield 52, 3) := by decide +kernel
theorem dX3_isTableRight_4 : decode cX3_isTableRight 4 = .ok (.sipush 188, 3) := by decide +kernel
theorem dX3_isTableRight_7 : decode cX3_isTableRight 7 = .ok (.iadd, 1) := by decide +kernel
theorem dX3_isTableRight_8 : decode cX3_isTableRight 8 = .ok (.aload_n 0, 1) := by decide +kernel
theorem dX3_isTableRight_9 : decode cX3_isTableRight 9 = .ok (.getfield 90, 3) := by decide +kernel
theorem dX3_isTableRight_12 : decode cX3_isTableRight 12 = .ok (.isub, 1) := by decide +kernel
theorem dX3_isTableRight_13 : decode cX3_isTableRight 13 = .ok (.istore_n 3, 1) := by decide +kernel
theorem dX3_isTableRight_14 : decode cX3_isTableRight 14 = .ok (.aload_n 0, 1) := by decide +kernel
theorem dX3_isTableRight_15 : decode cX3_isTableRight 15 = .ok (.getfield 39, 3) := by decide +kernel
theorem dX3_isTableRight_18 : decode cX3_isTableRight 18 = .ok (.aload_n 0, 1) := by decide +kernel
theorem dX3_isTableRight_19 : decode cX3_isTableRight 19 = .ok (.getfield 52, 3) := by decide +kernel
theorem dX3_isTableRight_22 : decode cX3_isTableRight 22 = .ok (.iconst 1, 1) := by decide +kernel
theorem dX3_isTableRight_23 : decode cX3_isTableRight 23 = .ok (.iadd, 1) := by decide +kernel
theorem dX3_isTableRight_24 : decode cX3_isTableRight 24 = .ok (.baload, 1) := by decide +kernel
theorem dX3_isTableRight_25 : decode cX3_isTableRight 25 = .ok (.bipush 64, 2) := by decide +kernel
theorem dX3_isTableRight_27 : decode cX3_isTableRight 27 = .ok (.iand, 1) := by decide +kernel
theorem dX3_isTableRight_28 : decode cX3_isTableRight 28 = .ok (.ifCond .eq 20, 3) := by decide +kernel
theorem dX3_isTableRight_31 : decode cX3_isTableRight 31 = .ok (.iload_n 3, 1) := by decide +kernel
theorem dX3_isTableRight_32 : decode cX3_isTableRight 32 = .ok (.iconst 4, 1) := by decide +kernel
theorem dX3_isTableRight_33 : decode cX3_isTableRight 33 = .ok (.if_icmp .lt 15, 3) := by decide +kernel
theorem dX3_isTableRight_36 : decode cX3_isTableRight 36 = .ok (.aload_n 0, 1) := by decide +kernel
theorem dX3_isTableRight_37 : decode cX3_isTableRight 37 = .ok (.getfield 39, 3) := by decide +kernel
theorem dX3_isTableRight_40 : decode cX3_isTableRight 40 = .ok (.aload_n 0, 1) := by decide +kernel
theorem dX3_isTableRight_41 : decode cX3_isTableRight 41 = .ok (.getfield 90, 3) := by decide +kernel
theorem dX3_isTableRight_44 : decode cX3_isTableRight 44 = .ok (.baload, 1) := by decide +kernel
theorem dX3_isTableRight_45 : decode cX3_isTableRight 45 = .ok (.ifCond .eq 5, 3) := by decide +kernel
theorem dX3_isTableRight_48 : decode cX3_isTableRight 48 = .ok (.iconst 0, 1) := by decide +kernel
theorem dX3_isTableRight_49 : decode cX3_isTableRight 49 = .ok (.ireturn, 1) := by decide +kernel
theorem dX3_isTableRight_50 : decode cX3_isTableRight 50 = .ok (.aload_n 0, 1) := by decide +kernel
theorem dX3_isTableRight_51 : decode cX3_isTableRight 51 = .ok (.getfield 39, 3) := by decide +kernel
theorem dX3_isTableRight_54 : decode cX3_isTableRight 54 = .ok (.iload_n 2, 1) := by decide +kernel
theorem dX3_isTableRight_55 : decode cX3_isTableRight 55 = .ok (.baload, 1) := by decide +kernel
theorem dX3_isTableRight_56 : decode cX3_isTableRight 56 = .ok (.iload_n 1, 1) := by decide +kernel
theorem dX3_isTableRight_57 : decode cX3_isTableRight 57 = .ok (.ifCond .ne 7, 3) := by decide +kernel
theorem dX3_isTableRight_60 : decode cX3_isTableRight 60 = .ok (.iconst 0, 1) := by decide +kernel
theorem dX3_isTableRight_61 : decode cX3_isTableRight 61 = .ok (.goto 4, 3) := by decide +kernel
theorem dX3_isTableRight_64 : decode cX3_isTableRight 64 = .ok (.iconst 2, 1) := by decide +kernel
theorem dX3_isTableRight_65 : decode cX3_isTableRight 65 = .ok (.if_icmp .eq 5, 3) := by decide +kernel
theorem dX3_isTableRight_68 : decode cX3_isTableRight 68 = .ok (.iconst 0, 1) := by decide +kernel
theorem dX3_isTableRight_69 : decode cX3_isTableRight 69 = .ok (.ireturn, 1) := by decide +kernel
theorem dX3_isTableRight_70 : decode cX3_isTableRight 70 = .ok (.aload_n 0, 1) := by decide +kernel
theorem dX3_isTableRight_71 : decode cX3_isTableRight 71 = .ok (.getfield 39, 3) := by decide +kernel
theorem dX3_isTableRight_74 : decode cX3_isTableRight 74 = .ok (.iload_n 2, 1) := by decide +kernel
theorem dX3_isTableRight_75 : decode cX3_isTableRight 75 = .ok (.iconst 1, 1) := by decide +kernel
theorem dX3_isTableRight_76 : decode cX3_isTableRight 76 = .ok (.iadd, 1) := by decide +kernel
theorem dX3_isTableRight_77 : decode cX3_isTableRight 77 = .ok (.invokestatic 69, 3) := by decide +kernel
theorem dX3_isTableRight_80 : decode cX3_isTableRight 80 = .ok (.sipush 4095, 3) := by decide +kernel
theorem dX3_isTableRight_83 : decode cX3_isTableRight 83 = .ok (.iand, 1) := by decide +kernel
theorem dX3_isTableRight_84 : decode cX3_isTableRight 84 = .ok (.istore 4, 2) := by decide +kernel
theorem dX3_isTableRight_86 : decode cX3_isTableRight 86 = .ok (.iload 4, 2) := by decide +kernel
theorem dX3_isTableRight_88 : decode cX3_isTableRight 88 = .ok (.iconst 4, 1) := by decide +kernel
theorem dX3_isTableRight_89 : decode cX3_isTableRight 89 = .ok (.iadd, 1) := by decide +kernel
theorem dX3_isTableRight_90 : decode cX3_isTableRight 90 = .ok (.iload_n 3, 1) := by decide +kernel
theorem dX3_isTableRight_91 : decode cX3_isTableRight 91 = .ok (.if_icmp .le 5, 3) := by decide +kernel
theorem dX3_isTableRight_94 : decode cX3_isTableRight 94 = .ok (.iconst 0, 1) := by decide +kernel
theorem dX3_isTableRight_95 : decode cX3_isTableRight 95 = .ok (.ireturn, 1) := by decide +kernel
theorem dX3_isTableRight_96 : decode cX3_isTableRight 96 = .ok (.iload_n 1, 1) := by decide +kernel
theorem dX3_isTableRight_97 : decode cX3_isTableRight 97 = .ok (.ifCond .ne 22, 3) := by decide +kernel
theorem dX3_isTableRight_100 : decode cX3_isTableRight 100 = .ok (.iload 4, 2) := by decide +kernel
theorem dX3_isTableRight_102 : decode cX3_isTableRight 102 = .ok (.bipush 9, 2) := by decide +kernel
theorem dX3_isTableRight_104 : decode cX3_isTableRight 104 = .ok (.if_icmp .lt 13, 3) := by decide +kernel
theorem dX3_isTableRight_107 : decode cX3_isTableRight 107 = .ok (.iload 4, 2) := by decide +kernel
theorem dX3_isTableRight_109 : decode cX3_isTableRight 109 = .ok (.bipush 9, 2) := by decide +kernel
theorem dX3_isTableRight_111 : decode cX3_isTableRight 111 = .ok (.isub, 1) := by decide +kernel
theorem dX3_isTableRight_112 : decode cX3_isTableRight 112 = .ok (.iconst 4, 1) := by decide +kernel
theorem dX3_isTableRight_113 : decode cX3_isTableRight 113 = .ok (.irem, 1) := by decide +kernel
theorem dX3_isTableRight_114 : decode cX3_isTableRight 114 = .ok (.ifCond .eq 5, 3) := by decide +kernel
theorem dX3_isTableRight_117 : decode cX3_isTableRight 117 = .ok (.iconst 0, 1) := by decide +kernel
theorem dX3_isTableRight_118 : decode cX3_isTableRight 118 = .ok (.ireturn, 1) := by decide +kernel
theorem dX3_isTableRight_119 : decode cX3_isTableRight 119 = .ok (.iload_n 1, 1) := by decide +kernel
theorem dX3_isTableRight_120 : decode cX3_isTableRight 120 = .ok (.ifCond .eq 30, 3) := by decide +kernel
theorem dX3_isTableRight_123 : decode cX3_isTableRight 123 = .ok (.iload 4, 2) := by decide +kernel
theorem dX3_isTableRight_125 : decode cX3_isTableRight 125 = .ok (.bipush 18, 2) := by decide +kernel
theorem dX3_isTableRight_127 : decode cX3_isTableRight 127 = .ok (.if_icmp .ne 21, 3) := by decide +kernel
theorem dX3_isTableRight_130 : decode cX3_isTableRight 130 = .ok (.aload_n 0, 1) := by decide +kernel
theorem dX3_isTableRight_131 : decode cX3_isTableRight 131 = .ok (.getfield 39, 3) := by decide +kernel
theorem dX3_isTableRight_134 : decode cX3_isTableRight 134 = .ok (.iload_n 2, 1) := by decide +kernel
theorem dX3_isTableRight_135 : decode cX3_isTableRight 135 = .ok (.iconst 3, 1) := by decide +kernel
theorem dX3_isTableRight_136 : decode cX3_isTableRight 136 = .ok (.iadd, 1) := by decide +kernel
theorem dX3_isTableRight_137 : decode cX3_isTableRight 137 = .ok (.invokestatic 69, 3) := by decide +kernel
theorem dX3_isTableRight_140 : decode cX3_isTableRight 140 = .ok (.iload_n 1, 1) := by decide +kernel
theorem dX3_isTableRight_141 : decode cX3_isTableRight 141 = .ok (.iconst 1, 1) := by decide +kernel
theorem dX3_isTableRight_142 : decode cX3_isTableRight 142 = .ok (.isub, 1) := by decide +kernel
theorem dX3_isTableRight_143 : decode cX3_isTableRight 143 = .ok (.iconst 1, 1) := by decide +kernel
theorem dX3_isTableRight_144 : decode cX3_isTableRight 144 = .ok (.iadd, 1) := by decide +kernel
theorem dX3_isTableRight_145 : decode cX3_isTableRight 145 = .ok (.if_icmp .eq 5, 3) := by decide +kernel
theorem dX3_isTableRight_148 : decode cX3_isTableRight 148 = .ok (.iconst 0, 1) := by decide +kernel
theorem dX3_isTableRight_149 : decode cX3_isTableRight 149 = .ok (.ireturn, 1) := by decide +kernel
theorem dX3_isTableRight_150 : decode cX3_isTableRight 150 = .ok (.iload_n 2, 1) := by decide +kernel
theorem dX3_isTableRight_151 : decode cX3_isTableRight 151 = .ok (.iload 4, 2) := by decide +kernel
theorem dX3_isTableRight_153 : decode cX3_isTableRight 153 = .ok (.iadd, 1) := by decide +kernel
theorem dX3_isTableRight_154 : decode cX3_isTableRight 154 = .ok (.iconst 1, 1) := by decide +kernel
theorem dX3_isTableRight_155 : decode cX3_isTableRight 155 = .ok (.isub, 1) := by decide +kernel
theorem dX3_isTableRight_156 : decode cX3_isTableRight 156 = .ok (.istore 5, 2) := by decide +kernel
theorem dX3_isTableRight_158 : decode cX3_isTableRight 158 = .ok (.aload_n 0, 1) := by decide +kernel
theorem dX3_isTableRight_159 : decode cX3_isTableRight 159 = .ok (.getfield 39, 3) := by decide +kernel
theorem dX3_isTableRight_162 : decode cX3_isTableRight 162 = .ok (.iload 5, 2) := by decide +kernel
theorem dX3_isTableRight_164 : decode cX3_isTableRight 164 = .ok (.invokestatic 127, 3) := by decide +kernel
theorem dX3_isTableRight_167 : decode cX3_isTableRight 167 = .ok (.aload_n 0, 1) := by decide +kernel
theorem dX3_isTableRight_168 : decode cX3_isTableRight 168 = .ok (.getfield 39, 3) := by decide +kernel
theorem dX3_isTableRight_171 : decode cX3_isTableRight 171 = .ok (.iload_n 2, 1) := by decide +kernel
theorem dX3_isTableRight_172 : decode cX3_isTableRight 172 = .ok (.iload 5, 2) := by decide +kernel
theorem dX3_isTableRight_174 : decode cX3_isTableRight 174 = .ok (.invokestatic 149, 3) := by decide +kernel
theorem dX3_isTableRight_177 : decode cX3_isTableRight 177 = .ok (.if_icmp .ne 7, 3) := by decide +kernel
theorem dX3_isTableRight_180 : decode cX3_isTableRight 180 = .ok (.iconst 1, 1) := by decide +kernel
theorem dX3_isTableRight_181 : decode cX3_isTableRight 181 = .ok (.goto 4, 3) := by decide +kernel
theorem dX3_isTableRight_184 : decode cX3_isTableRight 184 = .ok (.iconst 0, 1) := by decide +kernel
theorem dX3_isTableRight_185 : decode cX3_isTableRight 185 = .ok (.ireturn, 1) := by decide +kernel
theorem dX3_readList_0 : decode cX3_readList 0 = .ok (.aload_n 0, 1) := by decide +kernel
theorem dX3_readList_1 : decode cX3_readList 1 = .ok (.getfield 25, 3) := by decide +kernel
theorem dX3_readList_4 : decode cX3_readList 4 = .ok (.iconst (-1), 1) := by decide +kernel
theorem dX3_readList_5 : decode cX3_readList 5 = .ok (.invokestatic 43, 3) := by decide +kernel
theorem dX3_readList_8 : decode cX3_readList 8 = .ok (.iload_n 1, 1) := by decide +kernel
theorem dX3_readList_9 : decode cX3_readList 9 = .ok (.aload_n 0, 1) := by decide +kernel
theorem dX3_readList_10 : decode cX3_readList 10 = .ok (.getfield 39, 3) := by decide +kernel
theorem dX3_readList_13 : decode cX3_readList 13 = .ok (.iload_n 1, 1) := by decide +kernel
theorem dX3_readList_14 : decode cX3_readList 14 = .ok (.iconst 1, 1) := by decide +kernel
theorem dX3_readList_15 : decode cX3_readList 15 = .ok (.iadd, 1) := by decide +kernel
theorem dX3_readList_16 : decode cX3_readList 16 = .ok (.invokestatic 69, 3) := by decide +kernel
theorem dX3_readList_19 : decode cX3_readList 19 = .ok (.sipush 4095, 3) := by decide +kernel
theorem dX3_readList_22 : decode cX3_readList 22 = .ok (.iand, 1) := by decide +kernel
theorem dX3_readList_23 : decode cX3_readList 23 = .ok (.iadd, 1) := by decide +kernel
theorem dX3_readList_24 : decode cX3_readList 24 = .ok (.iconst 1, 1) := by decide +kernel
theorem dX3_readList_25 : decode cX3_readList 25 = .ok (.isub, 1) := by decide +kernel
theorem dX3_readList_26 : decode cX3_readList 26 = .ok (.istore_n 2, 1) := by decide +kernel
theorem dX3_readList_27 : decode cX3_readList 27 = .ok (.iload_n 1, 1) := by decide +kernel
theorem dX3_readList_28 : decode cX3_readList 28 = .ok (.bipush 8, 2) := by decide +kernel
theorem dX3_readList_30 : decode cX3_readList 30 = .ok (.iadd, 1) := by decide +kernel
theorem dX3_readList_31 : decode cX3_readList 31 = .ok (.istore_n 3, 1) := by decide +kernel
theorem dX3_readList_32 : decode cX3_readList 32 = .ok (.iload_n 3, 1) := by decide +kernel
theorem dX3_readList_33 : decode cX3_readList 33 = .ok (.iconst 4, 1) := by decide +kernel
theorem dX3_readList_34 : decode cX3_readList 34 = .ok (.iadd, 1) := by decide +kernel
theorem dX3_readList_35 : decode cX3_readList 35 = .ok (.iload_n 2, 1) := by decide +kernel
theorem dX3_readList_36 : decode cX3_readList 36 = .ok (.if_icmp .gt 53, 3) := by decide +kernel
theorem dX3_readList_39 : decode cX3_readList 39 = .ok (.aload_n 0, 1) := by decide +kernel
theorem dX3_readList_40 : decode cX3_readList 40 = .ok (.getfield 39, 3) := by decide +kernel
theorem dX3_readList_43 : decode cX3_readList 43 = .ok (.iload_n 3, 1) := by decide +kernel
theorem dX3_readList_44 : decode cX3_readList 44 = .ok (.invokestatic 69, 3) := by decide +kernel
theorem dX3_readList_47 : decode cX3_readList 47 = .ok (.iconst 1, 1) := by decide +kernel
theorem dX3_readList_48 : decode cX3_readList 48 = .ok (.isub, 1) := by decide +kernel
theorem dX3_readList_49 : decode cX3_readList 49 = .ok (.istore 4, 2) := by decide +kernel
theorem dX3_readList_51 : decode cX3_readList 51 = .ok (.iload 4, 2) := by decide +kernel
theorem dX3_readList_53 : decode cX3_readList 53 = .ok (.ifCond .lt 30, 3) := by decide +kernel
theorem dX3_readList_56 : decode cX3_readList 56 = .ok (.iload 4, 2) := by decide +kernel
theorem dX3_readList_58 : decode cX3_readList 58 = .ok (.iconst 3, 1) := by decide +kernel
theorem dX3_readList_59 : decode cX3_readList 59 = .ok (.if_icmp .ge 24, 3) := by decide +kernel
theorem dX3_readList_62 : decode cX3_readList 62 = .ok (.aload_n 0, 1) := by decide +kernel
theorem dX3_readList_63 : decode cX3_readList 63 = .ok (.getfield 25, 3) := by decide +kernel
theorem dX3_readList_66 : decode cX3_readList 66 = .ok (.iload 4, 2) := by decide +kernel
theorem dX3_readList_68 : decode cX3_readList 68 = .ok (.aload_n 0, 1) := by decide +kernel
theorem dX3_readList_69 : decode cX3_readList 69 = .ok (.getfield 39, 3) := by decide +kernel
theorem dX3_readList_72 : decode cX3_readList 72 = .ok (.iload_n 3, 1) := by decide +kernel
theorem dX3_readList_73 : decode cX3_readList 73 = .ok (.iconst 2, 1) := by decide +kernel
theorem dX3_readList_74 : decode cX3_readList 74 = .ok (.iadd, 1) := by decide +kernel
theorem dX3_readList_75 : decode cX3_readList 75 = .ok (.invokestatic 69, 3) := by decide +kernel
theorem dX3_readList_78 : decode cX3_readList 78 = .ok (.sipush 8191, 3) := by decide +kernel
theorem dX3_readList_81 : decode cX3_readList 81 = .ok (.iand, 1) := by decide +kernel
theorem dX3_readList_82 : decode cX3_readList 82 = .ok (.iastore, 1) := by decide +kernel
theorem dX3_readList_83 : decode cX3_readList 83 = .ok (.iinc 3 4, 3) := by decide +kernel
theorem dX3_readList_86 : decode cX3_readList 86 = .ok (.goto (-54), 3) := by decide +kernel
theorem dX3_readList_89 : decode cX3_readList 89 = .ok (.iconst 0, 1) := by decide +kernel
theorem dX3_readList_90 : decode cX3_readList 90 = .ok (.istore_n 3, 1) := by decide +kernel
theorem dX3_readList_91 : decode cX3_readList 91 = .ok (.iload_n 3, 1) := by decide +kernel
theorem dX3_readList_92 : decode cX3_readList 92 = .ok (.iconst 3, 1) := by decide +kernel
theorem dX3_readList_93 : decode cX3_readList 93 = .ok (.if_icmp .ge 24, 3) := by decide +kernel
theorem dX3_readList_96 : decode cX3_readList 96 = .ok (.aload_n 0, 1) := by decide +kernel
theorem dX3_readList_97 : decode cX3_readList 97 = .ok (.getfield 35, 3) := by decide +kernel
theorem dX3_readList_100 : decode cX3_readList 100 = .ok (.iload_n 3, 1) := by decide +kernel
theorem dX3_readList_101 : decode cX3_readList 101 = .ok (.aaload, 1) := by decide +kernel
theorem dX3_readList_102 : decode cX3_readList 102 = .ok (.aload_n 0, 1) := by decide +kernel
theorem dX3_readList_103 : decode cX3_readList 103 = .ok (.getfield 25, 3) := by decide +kernel
theorem dX3_readList_106 : decode cX3_readList 106 = .ok (.iload_n 3, 1) := by decide +kernel
theorem dX3_readList_107 : decode cX3_readList 107 = .ok (.iaload, 1) := by decide +kernel
theorem dX3_readList_108 : decode cX3_readList 108 = .ok (.invokevirtual 153, 3) := by decide +kernel
theorem dX3_readList_111 : decode cX3_readList 111 = .ok (.iinc 3 1, 3) := by decide +kernel
theorem dX3_readList_114 : decode cX3_readList 114 = .ok (.goto (-23), 3) := by decide +kernel
theorem dX3_readList_117 : decode cX3_readList 117 = .ok (.return_, 1) := by decide +kernel
theorem dX4_init_0 : decode cX4_init 0 = .ok (.aload_n 0, 1) := by decide +kernel
theorem dX4_init_1 : decode cX4_init 1 = .ok (.invokespecial 3, 3) := by decide +kernel
theorem dX4_init_4 : decode cX4_init 4 = .ok (.aload_n 0, 1) := by decide +kernel
theorem dX4_init_5 : decode cX4_init 5 = .ok (.sipush 12032, 3) := by decide +kernel
theorem dX4_init_8 : decode cX4_init 8 = .ok (.newarray .byte, 2) := by decide +kernel
theorem dX4_init_10 : decode cX4_init 10 = .ok (.putfield 11, 3) := by decide +kernel
theorem dX4_init_13 : decode cX4_init 13 = .ok (.aload_n 0, 1) := by decide +kernel
theorem dX4_init_14 : decode cX4_init 14 = .ok (.bipush 64, 2) := by decide +kernel
theorem dX4_init_16 : decode cX4_init 16 = .ok (.newarray .boolean, 2) := by decide +kernel
theorem dX4_init_18 : decode cX4_init 18 = .ok (.putfield 15, 3) := by decide +kernel
theorem dX4_init_21 : decode cX4_init 21 = .ok (.aload_n 0, 1) := by decide +kernel
theorem dX4_init_22 : decode cX4_init 22 = .ok (.new 19, 3) := by decide +kernel
theorem dX4_init_25 : decode cX4_init 25 = .ok (.dup, 1) := by decide +kernel
theorem dX4_init_26 : decode cX4_init 26 = .ok (.invokespecial 21, 3) := by decide +kernel
theorem dX4_init_29 : decode cX4_init 29 = .ok (.putfield 22, 3) := by decide +kernel
theorem dX4_init_32 : decode cX4_init 32 = .ok (.aload_n 0, 1) := by decide +kernel
theorem dX4_init_33 : decode cX4_init 33 = .ok (.new 19, 3) := by decide +kernel
theorem dX4_init_36 : decode cX4_init 36 = .ok (.dup, 1) := by decide +kernel
theorem dX4_init_37 : decode cX4_init 37 = .ok (.invokespecial 21, 3) := by decide +kernel
theorem dX4_init_40 : decode cX4_init 40 = .ok (.putfield 26, 3) := by decide +kernel
theorem dX4_init_43 : decode cX4_init 43 = .ok (.aload_n 0, 1) := by decide +kernel
theorem dX4_init_44 : decode cX4_init 44 = .ok (.new 19, 3) := by decide +kernel
theorem dX4_init_47 : decode cX4_init 47 = .ok (.dup, 1) := by decide +kernel
theorem dX4_init_48 : decode cX4_init 48 = .ok (.invokespecial 21, 3) := by decide +kernel
theorem dX4_init_51 : decode cX4_init 51 = .ok (.putfield 29, 3) := by decide +kernel
theorem dX4_init_54 : decode cX4_init 54 = .ok (.aload_n 0, 1) := by decide +kernel
theorem dX4_init_55 : decode cX4_init 55 = .ok (.iconst 5, 1) := by decide +kernel
theorem dX4_init_56 : decode cX4_init 56 = .ok (.putfield 32, 3) := by decide +kernel
theorem dX4_init_59 : decode cX4_init 59 = .ok (.aload_n 0, 1) := by decide +kernel
theorem dX4_init_60 : decode cX4_init 60 = .ok (.iconst 4, 1) := by decide +kernel
theorem dX4_init_61 : decode cX4_init 61 = .ok (.putfield 36, 3) := by decide +kernel
theorem dX4_init_64 : decode cX4_init 64 = .ok (.aload_n 0, 1) := by decide +kernel
theorem dX4_init_65 : decode cX4_init 65 = .ok (.iconst 5, 1) := by decide +kernel
theorem dX4_init_66 : decode cX4_init 66 = .ok (.putfield 39, 3) := by decide +kernel
theorem dX4_init_69 : decode cX4_init 69 = .ok (.aload_n 0, 1) := by decide +kernel
theorem dX4_init_70 : decode cX4_init 70 = .ok (.iconst 4, 1) := by decide +kernel
theorem dX4_init_71 : decode cX4_init 71 = .ok (.putfield 42, 3) := by decide +kernel
theorem dX4_init_74 : decode cX4_init 74 = .ok (.aload_n 0, 1) := by decide +kernel
theorem dX4_init_75 : decode cX4_init 75 = .ok (.aload_n 1, 1) := by decide +kernel
theorem dX4_init_76 : decode cX4_init 76 = .ok (.putfield 45, 3) := by decide +kernel
theorem dX4_init_79 : decode cX4_init 79 = .ok (.return_, 1) := by decide +kernel
theorem dX4_lossesTold_0 : decode cX4_lossesTold 0 = .ok (.aload_n 0, 1) := by decide +kernel
theorem dX4_lossesTold_1 : decode cX4_lossesTold 1 = .ok (.getfield 22, 3) := by decide +kernel
theorem dX4_lossesTold_4 : decode cX4_lossesTold 4 = .ok (.getfield 48, 3) := by decide +kernel
theorem dX4_lossesTold_7 : decode cX4_lossesTold 7 = .ok (.aload_n 0, 1) := by decide +kernel
theorem dX4_lossesTold_8 : decode cX4_lossesTold 8 = .ok (.getfield 26, 3) := by decide +kernel
theorem dX4_lossesTold_11 : decode cX4_lossesTold 11 = .ok (.getfield 48, 3) := by decide +kernel
theorem dX4_lossesTold_14 : decode cX4_lossesTold 14 = .ok (.iadd, 1) := by decide +kernel
theorem dX4_lossesTold_15 : decode cX4_lossesTold 15 = .ok (.ireturn, 1) := by decide +kernel
theorem dX4_carry_0 : decode cX4_carry 0 = .ok (.aload_n 0, 1) := by decide +kernel
theorem dX4_carry_1 : decode cX4_carry 1 = .ok (.getfield 51, 3) := by decide +kernel
theorem dX4_carry_4 : decode cX4_carry 4 = .ok (.ifCond .ne 19, 3) := by decide +kernel
theorem dX4_carry_7 : decode cX4_carry 7 = .ok (.aload_n 0, 1) := by decide +kernel
theorem dX4_carry_8 : decode cX4_carry 8 = .ok (.aload_n 0, 1) := by decide +kernel
theorem dX4_carry_9 : decode cX4_carry 9 = .ok (.getfield 32, 3) := by decide +kernel
theorem dX4_carry_12 : decode cX4_carry 12 = .ok (.putfield 39, 3) := by decide +kernel
theorem dX4_carry_15 : decode cX4_carry 15 = .ok (.aload_n 0, 1) := by decide +kernel
theorem dX4_carry_16 : decode cX4_carry 16 = .ok (.aload_n 0, 1) := by decide +kernel
theorem dX4_carry_17 : decode cX4_carry 17 = .ok (.getfield 36, 3) := by decide +kernel
theorem dX4_carry_20 : decode cX4_carry 20 = .ok (.putfield 42, 3) := by decide +kernel
theorem dX4_carry_23 : decode cX4_carry 23 = .ok (.aload_n 0, 1) := by decide +kernel
theorem dX4_carry_24 : decode cX4_carry 24 = .ok (.getfield 51, 3) := by decide +kernel
theorem dX4_carry_27 : decode cX4_carry 27 = .ok (.bipush 64, 2) := by decide +kernel
theorem dX4_carry_29 : decode cX4_carry 29 = .ok (.if_icmp .lt 4, 3) := by decide +kernel
theorem dX4_carry_32 : decode cX4_carry 32 = .ok (.return_, 1) := by decide +kernel
theorem dX4_carry_33 : decode cX4_carry 33 = .ok (.aload_n 0, 1) := by decide +kernel
theorem dX4_carry_34 : decode cX4_carry 34 = .ok (.getfield 15, 3) := by decide +kernel
theorem dX4_carry_37 : decode cX4_carry 37 = .ok (.aload_n 0, 1) := by decide +kernel
theorem dX4_carry_38 : decode cX4_carry 38 = .ok (.getfield 51, 3) := by decide +kernel
theorem dX4_carry_41 : decode cX4_carry 41 = .ok (.iconst 1, 1) := by decide +kernel
theorem dX4_carry_42 : decode cX4_carry 42 = .ok (.bastore, 1) := by decide +kernel
theorem dX4_carry_43 : decode cX4_carry 43 = .ok (.iconst 0, 1) := by decide +kernel
theorem dX4_carry_44 : decode cX4_carry 44 = .ok (.istore_n 2, 1) := by decide +kernel
theorem dX4_carry_45 : decode cX4_carry 45 = .ok (.iload_n 2, 1) := by decide +kernel
theorem dX4_carry_46 : decode cX4_carry 46 = .ok (.sipush 300, 3) := by decide +kernel
theorem dX4_carry_49 : decode cX4_carry 49 = .ok (.if_icmp .ge 31, 3) := by decide +kernel
theorem dX4_carry_52 : decode cX4_carry 52 = .ok (.aload_n 0, 1) := by decide +kernel
theorem dX4_carry_53 : decode cX4_carry 53 = .ok (.getfield 22, 3) := by decide +kernel
theorem dX4_carry_56 : decode cX4_carry 56 = .ok (.iload_n 1, 1) := by decide +kernel
theorem dX4_carry_57 : decode cX4_carry 57 = .ok (.invokevirtual 52, 3) := by decide +kernel
theorem dX4_carry_60 : decode cX4_carry 60 = .ok (.iconst (-1), 1) := by decide +kernel
theorem dX4_carry_61 : decode cX4_carry 61 = .ok (.if_icmp .eq 19, 3) := by decide +kernel
theorem dX4_carry_64 : decode cX4_carry 64 = .ok (.aload_n 0, 1) := by decide +kernel
theorem dX4_carry_65 : decode cX4_carry 65 = .ok (.getfield 15, 3) := by decide +kernel
theorem dX4_carry_68 : decode cX4_carry 68 = .ok (.aload_n 0, 1) := by decide +kernel
theorem dX4_carry_69 : decode cX4_carry 69 = .ok (.getfield 51, 3) := by decide +kernel
theorem dX4_carry_72 : decode cX4_carry 72 = .ok (.iconst 0, 1) := by decide +kernel
theorem dX4_carry_73 : decode cX4_carry 73 = .ok (.bastore, 1) := by decide +kernel
theorem dX4_carry_74 : decode cX4_carry 74 = .ok (.iinc 2 1, 3) := by decide +kernel
theorem dX4_carry_77 : decode cX4_carry 77 = .ok (.goto (-32), 3) := by decide +kernel
theorem dX4_carry_80 : decode cX4_carry 80 = .ok (.aload_n 0, 1) := by decide +kernel
theorem dX4_carry_81 : decode cX4_carry 81 = .ok (.getfield 15, 3) := by decide +kernel
theorem dX4_carry_84 : decode cX4_carry 84 = .ok (.aload_n 0, 1) := by decide +kernel
theorem dX4_carry_85 : decode cX4_carry 85 = .ok (.getfield 51, 3) := by decide +kernel
theorem dX4_carry_88 : decode cX4_carry 88 = .ok (.baload, 1) := by decide +kernel
theorem dX4_carry_89 : decode cX4_carry 89 = .ok (.ifCond .ne 13, 3) := by decide +kernel
theorem dX4_carry_92 : decode cX4_carry 92 = .ok (.aload_n 0, 1) := by decide +kernel
theorem dX4_carry_93 : decode cX4_carry 93 = .ok (.dup, 1) := by decide +kernel
theorem dX4_carry_94 : decode cX4_carry 94 = .ok (.getfield 56, 3) := by decide +kernel
theorem dX4_carry_97 : decode cX4_carry 97 = .ok (.iconst 1, 1) := by decide +kernel
theorem dX4_carry_98 : decode cX4_carry 98 = .ok (.iadd, 1) := by decide +kernel
theorem dX4_carry_99 : decode cX4_carry 99 = .ok (.putfield 56, 3) := by decide +kernel
theorem dX4_carry_102 : decode cX4_carry 102 = .ok (.aload_n 0, 1) := by decide +kernel
theorem dX4_carry_103 : decode cX4_carry 103 = .ok (.getfield 45, 3) := by decide +kernel
theorem dX4_carry_106 : decode cX4_carry 106 = .ok (.iload_n 1, 1) := by decide +kernel
theorem dX4_carry_107 : decode cX4_carry 107 = .ok (.sipush 256, 3) := by decide +kernel
theorem dX4_carry_110 : decode cX4_carry 110 = .ok (.irem, 1) := by decide +kernel
theorem dX4_carry_111 : decode cX4_carry 111 = .ok (.sipush 188, 3) := by decide +kernel
theorem dX4_carry_114 : decode cX4_carry 114 = .ok (.imul, 1) := by decide +kernel
theorem dX4_carry_115 : decode cX4_carry 115 = .ok (.aload_n 0, 1) := by decide +kernel
theorem dX4_carry_116 : decode cX4_carry 116 = .ok (.getfield 11, 3) := by decide +kernel
theorem dX4_carry_119 : decode cX4_carry 119 = .ok (.aload_n 0, 1) := by decide +kernel
theorem dX4_carry_120 : decode cX4_carry 120 = .ok (.getfield 51, 3) := by decide +kernel
theorem dX4_carry_123 : decode cX4_carry 123 = .ok (.sipush 188, 3) := by decide +kernel
theorem dX4_carry_126 : decode cX4_carry 126 = .ok (.imul, 1) := by decide +kernel
theorem dX4_carry_127 : decode cX4_carry 127 = .ok (.sipush 188, 3) := by decide +kernel
theorem dX4_carry_130 : decode cX4_carry 130 = .ok (.invokestatic 59, 3) := by decide +kernel
theorem dX4_carry_133 : decode cX4_carry 133 = .ok (.aload_n 0, 1) := by decide +kernel
theorem dX4_carry_134 : decode cX4_carry 134 = .ok (.iload_n 1, 1) := by decide +kernel
theorem dX4_carry_135 : decode cX4_carry 135 = .ok (.invokevirtual 65, 3) := by decide +kernel
theorem dX4_carry_138 : decode cX4_carry 138 = .ok (.aload_n 0, 1) := by decide +kernel
theorem dX4_carry_139 : decode cX4_carry 139 = .ok (.dup, 1) := by decide +kernel
theorem dX4_carry_140 : decode cX4_carry 140 = .ok (.getfield 51, 3) := by decide +kernel
theorem dX4_carry_143 : decode cX4_carry 143 = .ok (.iconst 1, 1) := by decide +kernel
theorem dX4_carry_144 : decode cX4_carry 144 = .ok (.iadd, 1) := by decide +kernel
theorem dX4_carry_145 : decode cX4_carry 145 = .ok (.putfield 51, 3) := by decide +kernel
theorem dX4_carry_148 : decode cX4_carry 148 = .ok (.return_, 1) := by decide +kernel
theorem dX4_alterPacket_0 : decode cX4_alterPacket 0 = .ok (.aload_n 0, 1) := by decide +kernel
theorem dX4_alterPacket_1 : decode cX4_alterPacket 1 = .ok (.getfield 29, 3) := by decide +kernel
theorem dX4_alterPacket_4 : decode cX4_alterPacket 4 = .ok (.iload_n 1, 1) := by decide +kernel
theorem dX4_alterPacket_5 : decode cX4_alterPacket 5 = .ok (.invokevirtual 52, 3) := by decide +kernel
theorem dX4_alterPacket_8 : decode cX4_alterPacket 8 = .ok (.istore_n 2, 1) := by decide +kernel
theorem dX4_alterPacket_9 : decode cX4_alterPacket 9 = .ok (.iconst 0, 1) := by decide +kernel
theorem dX4_alterPacket_10 : decode cX4_alterPacket 10 = .ok (.istore_n 3, 1) := by decide +kernel
theorem dX4_alterPacket_11 : decode cX4_alterPacket 11 = .ok (.iload_n 3, 1) := by decide +kernel
theorem dX4_alterPacket_12 : decode cX4_alterPacket 12 = .ok (.sipush 300, 3) := by decide +kernel
theorem dX4_alterPacket_15 : decode cX4_alterPacket 15 = .ok (.if_icmp .ge 47, 3) := by decide +kernel
theorem dX4_alterPacket_18 : decode cX4_alterPacket 18 = .ok (.iload_n 2, 1) := by decide +kernel
theorem dX4_alterPacket_19 : decode cX4_alterPacket 19 = .ok (.iconst (-1), 1) := by decide +kernel
theorem dX4_alterPacket_20 : decode cX4_alterPacket 20 = .ok (.if_icmp .eq 42, 3) := by decide +kernel
theorem dX4_alterPacket_23 : decode cX4_alterPacket 23 = .ok (.aload_n 0, 1) := by decide +kernel
theorem dX4_alterPacket_24 : decode cX4_alterPacket 24 = .ok (.getfield 11, 3) := by decide +kernel
theorem dX4_alterPacket_27 : decode cX4_alterPacket 27 = .ok (.aload_n 0, 1) := by decide +kernel
theorem dX4_alterPacket_28 : decode cX4_alterPacket 28 = .ok (.getfield 51, 3) := by decide +kernel
theorem dX4_alterPacket_31 : decode cX4_alterPacket 31 = .ok (.sipush 188, 3) := by decide +kernel
theorem dX4_alterPacket_34 : decode cX4_alterPacket 34 = .ok (.imul, 1) := by decide +kernel
theorem dX4_alterPacket_35 : decode cX4_alterPacket 35 = .ok (.iload_n 2, 1) := by decide +kernel
theorem dX4_alterPacket_36 : decode cX4_alterPacket 36 = .ok (.bipush 8, 2) := by decide +kernel
theorem dX4_alterPacket_38 : decode cX4_alterPacket 38 = .ok (.ishr, 1) := by decide +kernel
theorem dX4_alterPacket_39 : decode cX4_alterPacket 39 = .ok (.iadd, 1) := by decide +kernel
theorem dX4_alterPacket_40 : decode cX4_alterPacket 40 = .ok (.dup2, 1) := by decide +kernel
theorem dX4_alterPacket_41 : decode cX4_alterPacket 41 = .ok (.baload, 1) := by decide +kernel
theorem dX4_alterPacket_42 : decode cX4_alterPacket 42 = .ok (.iload_n 2, 1) := by decide +kernel
theorem dX4_alterPacket_43 : decode cX4_alterPacket 43 = .ok (.i2b, 1) := by decide +kernel
theorem dX4_alterPacket_44 : decode cX4_alterPacket 44 = .ok (.ixor, 1) := by decide +kernel
theorem dX4_alterPacket_45 : decode cX4_alterPacket 45 = .ok (.i2b, 1) := by decide +kernel
theorem dX4_alterPacket_46 : decode cX4_alterPacket 46 = .ok (.bastore, 1) := by decide +kernel
theorem dX4_alterPacket_47 : decode cX4_alterPacket 47 = .ok (.aload_n 0, 1) := by decide +kernel
theorem dX4_alterPacket_48 : decode cX4_alterPacket 48 = .ok (.getfield 29, 3) := by decide +kernel
theorem dX4_alterPacket_51 : decode cX4_alterPacket 51 = .ok (.iload_n 1, 1) := by decide +kernel
theorem dX4_alterPacket_52 : decode cX4_alterPacket 52 = .ok (.invokevirtual 52, 3) := by decide +kernel
theorem dX4_alterPacket_55 : decode cX4_alterPacket 55 = .ok (.istore_n 2, 1) := by decide +kernel
theorem dX4_alterPacket_56 : decode cX4_alterPacket 56 = .ok (.iinc 3 1, 3) := by decide +kernel
theorem dX4_alterPacket_59 : decode cX4_alterPacket 59 = .ok (.goto (-48), 3) := by decide +kernel
theorem dX4_alterPacket_62 : decode cX4_alterPacket 62 = .ok (.return_, 1) := by decide +kernel
theorem dX4_isBlockFull_0 : decode cX4_isBlockFull 0 = .ok (.aload_n 0, 1) := by decide +kernel
theorem dX4_isBlockFull_1 : decode cX4_isBlockFull 1 = .ok (.getfield 51, 3) := by decide +kernel
theorem dX4_isBlockFull_4 : decode cX4_isBlockFull 4 = .ok (.aload_n 0, 1) := by decide +kernel
theorem dX4_isBlockFull_5 : decode cX4_isBlockFull 5 = .ok (.getfield 39, 3) := by decide +kernel
theorem dX4_isBlockFull_8 : decode cX4_isBlockFull 8 = .ok (.aload_n 0, 1) := by decide +kernel
theorem dX4_isBlockFull_9 : decode cX4_isBlockFull 9 = .ok (.getfield 42, 3) := by decide +kernel
theorem dX4_isBlockFull_12 : decode cX4_isBlockFull 12 = .ok (.imul, 1) := by decide +kernel
theorem dX4_isBlockFull_13 : decode cX4_isBlockFull 13 = .ok (.if_icmp .ne 7, 3) := by decide +kernel
theorem dX4_isBlockFull_16 : decode cX4_isBlockFull 16 = .ok (.iconst 1, 1) := by decide +kernel
theorem dX4_isBlockFull_17 : decode cX4_isBlockFull 17 = .ok (.goto 4, 3) := by decide +kernel
theorem dX4_isBlockFull_20 : decode cX4_isBlockFull 20 = .ok (.iconst 0, 1) := by decide +kernel
theorem dX4_isBlockFull_21 : decode cX4_isBlockFull 21 = .ok (.ireturn, 1) := by decide +kernel
theorem dX4_closeBlock_0 : decode cX4_closeBlock 0 = .ok (.aload_n 0, 1) := by decide +kernel
theorem dX4_closeBlock_1 : decode cX4_closeBlock 1 = .ok (.dup, 1) := by decide +kernel
theorem dX4_closeBlock_2 : decode cX4_closeBlock 2 = .ok (.getfield 69, 3) := by decide +kernel
theorem dX4_closeBlock_5 : decode cX4_closeBlock 5 = .ok (.aload_n 0, 1) := by decide +kernel
theorem dX4_closeBlock_6 : decode cX4_closeBlock 6 = .ok (.getfield 51, 3) := by decide +kernel
theorem dX4_closeBlock_9 : decode cX4_closeBlock 9 = .ok (.iadd, 1) := by decide +kernel
theorem dX4_closeBlock_10 : decode cX4_closeBlock 10 = .ok (.putfield 69, 3) := by decide +kernel
theorem dX4_closeBlock_13 : decode cX4_closeBlock 13 = .ok (.aload_n 0, 1) := by decide +kernel
theorem dX4_closeBlock_14 : decode cX4_closeBlock 14 = .ok (.iconst 0, 1) := by decide +kernel
theorem dX4_closeBlock_15 : decode cX4_closeBlock 15 = .ok (.putfield 51, 3) := by decide +kernel
theorem dX4_closeBlock_18 : decode cX4_closeBlock 18 = .ok (.aload_n 0, 1) := by decide +kernel
theorem dX4_closeBlock_19 : decode cX4_closeBlock 19 = .ok (.dup, 1) := by decide +kernel
theorem dX4_closeBlock_20 : decode cX4_closeBlock 20 = .ok (.getfield 72, 3) := by decide +kernel
theorem dX4_closeBlock_23 : decode cX4_closeBlock 23 = .ok (.iconst 1, 1) := by decide +kernel
theorem dX4_closeBlock_24 : decode cX4_closeBlock 24 = .ok (.iadd, 1) := by decide +kernel
theorem dX4_closeBlock_25 : decode cX4_closeBlock 25 = .ok (.putfield 72, 3) := by decide +kernel
theorem dX4_closeBlock_28 : decode cX4_closeBlock 28 = .ok (.return_, 1) := by decide +kernel
theorem dX4_mend_0 : decode cX4_mend 0 = .ok (.aload_n 0, 1) := by decide +kernel
theorem dX4_mend_1 : decode cX4_mend 1 = .ok (.iconst 0, 1) := by decide +kernel
theorem dX4_mend_2 : decode cX4_mend 2 = .ok (.putfield 75, 3) := by decide +kernel
theorem dX4_mend_5 : decode cX4_mend 5 = .ok (.aload_n 0, 1) := by decide +kernel
theorem dX4_mend_6 : decode cX4_mend 6 = .ok (.getfield 26, 3) := by decide +kernel
theorem dX4_mend_9 : decode cX4_mend 9 = .ok (.aload_n 0, 1) := by decide +kernel
theorem dX4_mend_10 : decode cX4_mend 10 = .ok (.getfield 72, 3) := by decide +kernel
theorem dX4_mend_13 : decode cX4_mend 13 = .ok (.invokevirtual 52, 3) := by decide +kernel
theorem dX4_mend_16 : decode cX4_mend 16 = .ok (.istore_n 1, 1) := by decide +kernel
theorem dX4_mend_17 : decode cX4_mend 17 = .ok (.iconst 0, 1) := by decide +kernel
theorem dX4_mend_18 : decode cX4_mend 18 = .ok (.istore_n 2, 1) := by decide +kernel
theorem dX4_mend_19 : decode cX4_mend 19 = .ok (.iload_n 2, 1) := by decide +kernel
theorem dX4_mend_20 : decode cX4_mend 20 = .ok (.sipush 300, 3) := by decide +kernel
theorem dX4_mend_23 : decode cX4_mend 23 = .ok (.if_icmp .ge 38, 3) := by decide +kernel
theorem dX4_mend_26 : decode cX4_mend 26 = .ok (.iload_n 1, 1) := by decide +kernel
theorem dX4_mend_27 : decode cX4_mend 27 = .ok (.iconst (-1), 1) := by decide +kernel
theorem dX4_mend_28 : decode cX4_mend 28 = .ok (.if_icmp .eq 33, 3) := by decide +kernel
theorem dX4_mend_31 : decode cX4_mend 31 = .ok (.aload_n 0, 1) := by decide +kernel
theorem dX4_mend_32 : decode cX4_mend 32 = .ok (.dup, 1) := by decide +kernel
theorem dX4_mend_33 : decode cX4_mend 33 = .ok (.getfield 75, 3) := by decide +kernel
theorem dX4_mend_36 : decode cX4_mend 36 = .ok (.iconst 1, 1) := by decide +kernel
theorem dX4_mend_37 : decode cX4_mend 37 = .ok (.iload_n 1, 1) := by decide +kernel
theorem dX4_mend_38 : decode cX4_mend 38 = .ok (.ishl, 1) := by decide +kernel
theorem dX4_mend_39 : decode cX4_mend 39 = .ok (.ior, 1) := by decide +kernel
theorem dX4_mend_40 : decode cX4_mend 40 = .ok (.putfield 75, 3) := by decide +kernel
theorem dX4_mend_43 : decode cX4_mend 43 = .ok (.aload_n 0, 1) := by decide +kernel
theorem dX4_mend_44 : decode cX4_mend 44 = .ok (.getfield 26, 3) := by decide +kernel
theorem dX4_mend_47 : decode cX4_mend 47 = .ok (.aload_n 0, 1) := by decide +kernel
theorem dX4_mend_48 : decode cX4_mend 48 = .ok (.getfield 72, 3) := by decide +kernel
theorem dX4_mend_51 : decode cX4_mend 51 = .ok (.invokevirtual 52, 3) := by decide +kernel
theorem dX4_mend_54 : decode cX4_mend 54 = .ok (.istore_n 1, 1) := by decide +kernel
theorem dX4_mend_55 : decode cX4_mend 55 = .ok (.iinc 2 1, 3) := by decide +kernel
theorem dX4_mend_58 : decode cX4_mend 58 = .ok (.goto (-39), 3) := by decide +kernel
theorem dX4_mend_61 : decode cX4_mend 61 = .ok (.iconst 0, 1) := by decide +kernel
theorem dX4_mend_62 : decode cX4_mend 62 = .ok (.istore_n 2, 1) := by decide +kernel
theorem dX4_mend_63 : decode cX4_mend 63 = .ok (.iload_n 2, 1) := by decide +kernel
theorem dX4_mend_64 : decode cX4_mend 64 = .ok (.bipush 64, 2) := by decide +kernel
theorem dX4_mend_66 : decode cX4_mend 66 = .ok (.if_icmp .ge 26, 3) := by decide +kernel
theorem dX4_mend_69 : decode cX4_mend 69 = .ok (.aload_n 0, 1) := by decide +kernel
theorem dX4_mend_70 : decode cX4_mend 70 = .ok (.invokevirtual 78, 3) := by decide +kernel
theorem dX4_mend_73 : decode cX4_mend 73 = .ok (.ifCond .eq 19, 3) := by decide +kernel
theorem dX4_mend_76 : decode cX4_mend 76 = .ok (.aload_n 0, 1) := by decide +kernel
theorem dX4_mend_77 : decode cX4_mend 77 = .ok (.dup, 1) := by decide +kernel
theorem dX4_mend_78 : decode cX4_mend 78 = .ok (.getfield 82, 3) := by decide +kernel
theorem dX4_mend_81 : decode cX4_mend 81 = .ok (.iconst 1, 1) := by decide +kernel
theorem dX4_mend_82 : decode cX4_mend 82 = .ok (.iadd, 1) := by decide +kernel
theorem dX4_mend_83 : decode cX4_mend 83 = .ok (.putfield 82, 3) := by decide +kernel
theorem dX4_mend_86 : decode cX4_mend 86 = .ok (.iinc 2 1, 3) := by decide +kernel
theorem dX4_mend_89 : decode cX4_mend 89 = .ok (.goto (-26), 3) := by decide +kernel
theorem dX4_mend_92 : decode cX4_mend 92 = .ok (.return_, 1) := by decide +kernel
theorem dX4_mendOne_0 : decode cX4_mendOne 0 = .ok (.iconst 0, 1) := by decide +kernel
theorem dX4_mendOne_1 : decode cX4_mendOne 1 = .ok (.istore_n 1, 1) := by decide +kernel
theorem dX4_mendOne_2 : decode cX4_mendOne 2 = .ok (.iload_n 1, 1) := by decide +kernel
theorem dX4_mendOne_3 : decode cX4_mendOne 3 = .ok (.aload_n 0, 1) := by decide +kernel
theorem dX4_mendOne_4 : decode cX4_mendOne 4 = .ok (.getfield 42, 3) := by decide +kernel
theorem dX4_mendOne_7 : decode cX4_mendOne 7 = .ok (.if_icmp .ge 40, 3) := by decide +kernel
theorem dX4_mendOne_10 : decode cX4_mendOne 10 = .ok (.aload_n 0, 1) := by decide +kernel
theorem dX4_mendOne_11 : decode cX4_mendOne 11 = .ok (.getfield 75, 3) := by decide +kernel
theorem dX4_mendOne_14 : decode cX4_mendOne 14 = .ok (.iload_n 1, 1) := by decide +kernel
theorem dX4_mendOne_15 : decode cX4_mendOne 15 = .ok (.ishr, 1) := by decide +kernel
theorem dX4_mendOne_16 : decode cX4_mendOne 16 = .ok (.iconst 1, 1) := by decide +kernel
theorem dX4_mendOne_17 : decode cX4_mendOne 17 = .ok (.iand, 1) := by decide +kernel
theorem dX4_mendOne_18 : decode cX4_mendOne 18 = .ok (.ifCond .ne 23, 3) := by decide +kernel
theorem dX4_mendOne_21 : decode cX4_mendOne 21 = .ok (.aload_n 0, 1) := by decide +kernel
theorem dX4_mendOne_22 : decode cX4_mendOne 22 = .ok (.iload_n 1, 1) := by decide +kernel
theorem dX4_mendOne_23 : decode cX4_mendOne 23 = .ok (.aload_n 0, 1) := by decide +kernel
theorem dX4_mendOne_24 : decode cX4_mendOne 24 = .ok (.getfield 39, 3) := by decide +kernel
theorem dX4_mendOne_27 : decode cX4_mendOne 27 = .ok (.imul, 1) := by decide +kernel
theorem dX4_mendOne_28 : decode cX4_mendOne 28 = .ok (.iconst 1, 1) := by decide +kernel
theorem dX4_mendOne_29 : decode cX4_mendOne 29 = .ok (.aload_n 0, 1) := by decide +kernel
theorem dX4_mendOne_30 : decode cX4_mendOne 30 = .ok (.getfield 39, 3) := by decide +kernel
theorem dX4_mendOne_33 : decode cX4_mendOne 33 = .ok (.invokevirtual 85, 3) := by decide +kernel
theorem dX4_mendOne_36 : decode cX4_mendOne 36 = .ok (.ifCond .eq 5, 3) := by decide +kernel
theorem dX4_mendOne_39 : decode cX4_mendOne 39 = .ok (.iconst 1, 1) := by decide +kernel
theorem dX4_mendOne_40 : decode cX4_mendOne 40 = .ok (.ireturn, 1) := by decide +kernel
theorem dX4_mendOne_41 : decode cX4_mendOne 41 = .ok (.iinc 1 1, 3) := by decide +kernel
theorem dX4_mendOne_44 : decode cX4_mendOne 44 = .ok (.goto (-42), 3) := by decide +kernel
theorem dX4_mendOne_47 : decode cX4_mendOne 47 = .ok (.iconst 0, 1) := by decide +kernel
theorem dX4_mendOne_48 : decode cX4_mendOne 48 = .ok (.istore_n 1, 1) := by decide +kernel
theorem dX4_mendOne_49 : decode cX4_mendOne 49 = .ok (.iload_n 1, 1) := by decide +kernel
theorem dX4_mendOne_50 : decode cX4_mendOne 50 = .ok (.aload_n 0, 1) := by decide +kernel
theorem dX4_mendOne_51 : decode cX4_mendOne 51 = .ok (.getfield 39, 3) := by decide +kernel
theorem dX4_mendOne_54 : decode cX4_mendOne 54 = .ok (.if_icmp .ge 43, 3) := by decide +kernel
theorem dX4_mendOne_57 : decode cX4_mendOne 57 = .ok (.aload_n 0, 1) := by decide +kernel
theorem dX4_mendOne_58 : decode cX4_mendOne 58 = .ok (.getfield 75, 3) := by decide +kernel
theorem dX4_mendOne_61 : decode cX4_mendOne 61 = .ok (.aload_n 0, 1) := by decide +kernel
theorem dX4_mendOne_62 : decode cX4_mendOne 62 = .ok (.getfield 42, 3) := by decide +kernel
theorem dX4_mendOne_65 : decode cX4_mendOne 65 = .ok (.iload_n 1, 1) := by decide +kernel
theorem dX4_mendOne_66 : decode cX4_mendOne 66 = .ok (.iadd, 1) := by decide +kernel
theorem dX4_mendOne_67 : decode cX4_mendOne 67 = .ok (.ishr, 1) := by decide +kernel
theorem dX4_mendOne_68 : decode cX4_mendOne 68 = .ok (.iconst 1, 1) := by decide +kernel
theorem dX4_mendOne_69 : decode cX4_mendOne 69 = .ok (.iand, 1) := by decide +kernel
theorem dX4_mendOne_70 : decode cX4_mendOne 70 = .ok (.ifCond .ne 21, 3) := by decide +kernel
theorem dX4_mendOne_73 : decode cX4_mendOne 73 = .ok (.aload_n 0, 1) := by decide +kernel
theorem dX4_mendOne_74 : decode cX4_mendOne 74 = .ok (.iload_n 1, 1) := by decide +kernel
theorem dX4_mendOne_75 : decode cX4_mendOne 75 = .ok (.aload_n 0, 1) := by decide +kernel
theorem dX4_mendOne_76 : decode cX4_mendOne 76 = .ok (.getfield 39, 3) := by decide +kernel
theorem dX4_mendOne_79 : decode cX4_mendOne 79 = .ok (.aload_n 0, 1) := by decide +kernel
theorem dX4_mendOne_80 : decode cX4_mendOne 80 = .ok (.getfield 42, 3) := by decide +kernel
theorem dX4_mendOne_83 : decode cX4_mendOne 83 = .ok (.invokevirtual 85, 3) := by decide +kernel
theorem dX4_mendOne_86 : decode cX4_mendOne 86 = .ok (.ifCond .eq 5, 3) := by decide +kernel
theorem dX4_mendOne_89 : decode cX4_mendOne 89 = .ok (.iconst 1, 1) := by decide +kernel
theorem dX4_mendOne_90 : decode cX4_mendOne 90 = .ok (.ireturn, 1) := by decide +kernel
theorem dX4_mendOne_91 : decode cX4_mendOne 91 = .ok (.iinc 1 1, 3) := by decide +kernel
theorem dX4_mendOne_94 : decode cX4_mendOne 94 = .ok (.goto (-45), 3) := by decide +kernel
theorem dX4_mendOne_97 : decode cX4_mendOne 97 = .ok (.iconst 0, 1) := by decide +kernel
theorem dX4_mendOne_98 : decode cX4_mendOne 98 = .ok (.ireturn, 1) := by decide +kernel
theorem dX4_mendGroup_0 : decode cX4_mendGroup 0 = .ok (.iconst (-1), 1) := by decide +kernel
theorem dX4_mendGroup_1 : decode cX4_mendGroup 1 = .ok (.istore 4, 2) := by decide +kernel
theorem dX4_mendGroup_3 : decode cX4_mendGroup 3 = .ok (.iconst 0, 1) := by decide +kernel
theorem dX4_mendGroup_4 : decode cX4_mendGroup 4 = .ok (.istore 5, 2) := by decide +kernel
theorem dX4_mendGroup_6 : decode cX4_mendGroup 6 = .ok (.iload 5, 2) := by decide +kernel
theorem dX4_mendGroup_8 : decode cX4_mendGroup 8 = .ok (.iload_n 3, 1) := by decide +kernel
theorem dX4_mendGroup_9 : decode cX4_mendGroup 9 = .ok (.if_icmp .ge 42, 3) := by decide +kernel
theorem dX4_mendGroup_12 : decode cX4_mendGroup 12 = .ok (.iload_n 1, 1) := by decide +kernel
theorem dX4_mendGroup_13 : decode cX4_mendGroup 13 = .ok (.iload 5, 2) := by decide +kernel
theorem dX4_mendGroup_15 : decode cX4_mendGroup 15 = .ok (.iload_n 2, 1) := by decide +kernel
theorem dX4_mendGroup_16 : decode cX4_mendGroup 16 = .ok (.imul, 1) := by decide +kernel
theorem dX4_mendGroup_17 : decode cX4_mendGroup 17 = .ok (.iadd, 1) := by decide +kernel
theorem dX4_mendGroup_18 : decode cX4_mendGroup 18 = .ok (.istore 6, 2) := by decide +kernel
theorem dX4_mendGroup_20 : decode cX4_mendGroup 20 = .ok (.aload_n 0, 1) := by decide +kernel
theorem dX4_mendGroup_21 : decode cX4_mendGroup 21 = .ok (.getfield 15, 3) := by decide +kernel
theorem dX4_mendGroup_24 : decode cX4_mendGroup 24 = .ok (.iload 6, 2) := by decide +kernel
theorem dX4_mendGroup_26 : decode cX4_mendGroup 26 = .ok (.baload, 1) := by decide +kernel
theorem dX4_mendGroup_27 : decode cX4_mendGroup 27 = .ok (.ifCond .eq 6, 3) := by decide +kernel
theorem dX4_mendGroup_30 : decode cX4_mendGroup 30 = .ok (.goto 15, 3) := by decide +kernel
theorem dX4_mendGroup_33 : decode cX4_mendGroup 33 = .ok (.iload 4, 2) := by decide +kernel
theorem dX4_mendGroup_35 : decode cX4_mendGroup 35 = .ok (.iconst (-1), 1) := by decide +kernel
theorem dX4_mendGroup_36 : decode cX4_mendGroup 36 = .ok (.if_icmp .eq 5, 3) := by decide +kernel
theorem dX4_mendGroup_39 : decode cX4_mendGroup 39 = .ok (.iconst 0, 1) := by decide +kernel
theorem dX4_mendGroup_40 : decode cX4_mendGroup 40 = .ok (.ireturn, 1) := by decide +kernel
theorem dX4_mendGroup_41 : decode cX4_mendGroup 41 = .ok (.iload 6, 2) := by decide +kernel
theorem dX4_mendGroup_43 : decode cX4_mendGroup 43 = .ok (.istore 4, 2) := by decide +kernel
theorem dX4_mendGroup_45 : decode cX4_mendGroup 45 = .ok (.iinc 5 1, 3) := by decide +kernel
theorem dX4_mendGroup_48 : decode cX4_mendGroup 48 = .ok (.goto (-42), 3) := by decide +kernel
theorem dX4_mendGroup_51 : decode cX4_mendGroup 51 = .ok (.iload 4, 2) := by decide +kernel
theorem dX4_mendGroup_53 : decode cX4_mendGroup 53 = .ok (.iconst (-1), 1) := by decide +kernel
theorem dX4_mendGroup_54 : decode cX4_mendGroup 54 = .ok (.if_icmp .ne 5, 3) := by decide +kernel
theorem dX4_mendGroup_57 : decode cX4_mendGroup 57 = .ok (.iconst 0, 1) := by decide +kernel
theorem dX4_mendGroup_58 : decode cX4_mendGroup 58 = .ok (.ireturn, 1) := by decide +kernel
theorem dX4_mendGroup_59 : decode cX4_mendGroup 59 = .ok (.aload_n 0, 1) := by decide +kernel
theorem dX4_mendGroup_60 : decode cX4_mendGroup 60 = .ok (.getfield 45, 3) := by decide +kernel
theorem dX4_mendGroup_63 : decode cX4_mendGroup 63 = .ok (.aload_n 0, 1) := by decide +kernel
theorem dX4_mendGroup_64 : decode cX4_mendGroup 64 = .ok (.getfield 69, 3) := by decide +kernel
theorem dX4_mendGroup_67 : decode cX4_mendGroup 67 = .ok (.iload 4, 2) := by decide +kernel
theorem dX4_mendGroup_69 : decode cX4_mendGroup 69 = .ok (.iadd, 1) := by decide +kernel
theorem dX4_mendGroup_70 : decode cX4_mendGroup 70 = .ok (.sipush 256, 3) := by decide +kernel
theorem dX4_mendGroup_73 : decode cX4_mendGroup 73 = .ok (.irem, 1) := by decide +kernel
theorem dX4_mendGroup_74 : decode cX4_mendGroup 74 = .ok (.sipush 188, 3) := by decide +kernel
theorem dX4_mendGroup_77 : decode cX4_mendGroup 77 = .ok (.imul, 1) := by decide +kernel
theorem dX4_mendGroup_78 : decode cX4_mendGroup 78 = .ok (.aload_n 0, 1) := by decide +kernel
theorem dX4_mendGroup_79 : decode cX4_mendGroup 79 = .ok (.getfield 11, 3) := by decide +kernel
theorem dX4_mendGroup_82 : decode cX4_mendGroup 82 = .ok (.iload 4, 2) := by decide +kernel
theorem dX4_mendGroup_84 : decode cX4_mendGroup 84 = .ok (.sipush 188, 3) := by decide +kernel
theorem dX4_mendGroup_87 : decode cX4_mendGroup 87 = .ok (.imul, 1) := by decide +kernel
theorem dX4_mendGroup_88 : decode cX4_mendGroup 88 = .ok (.sipush 188, 3) := by decide +kernel
theorem dX4_mendGroup_91 : decode cX4_mendGroup 91 = .ok (.invokestatic 59, 3) := by decide +kernel
theorem dX4_mendGroup_94 : decode cX4_mendGroup 94 = .ok (.iconst 0, 1) := by decide +kernel
theorem dX4_mendGroup_95 : decode cX4_mendGroup 95 = .ok (.istore 5, 2) := by decide +kernel
theorem dX4_mendGroup_97 : decode cX4_mendGroup 97 = .ok (.iload 5, 2) := by decide +kernel
theorem dX4_mendGroup_99 : decode cX4_mendGroup 99 = .ok (.iload_n 3, 1) := by decide +kernel
theorem dX4_mendGroup_100 : decode cX4_mendGroup 100 = .ok (.if_icmp .ge 32, 3) := by decide +kernel
theorem dX4_mendGroup_103 : decode cX4_mendGroup 103 = .ok (.iload_n 1, 1) := by decide +kernel
theorem dX4_mendGroup_104 : decode cX4_mendGroup 104 = .ok (.iload 5, 2) := by decide +kernel
theorem dX4_mendGroup_106 : decode cX4_mendGroup 106 = .ok (.iload_n 2, 1) := by decide +kernel
theorem dX4_mendGroup_107 : decode cX4_mendGroup 107 = .ok (.imul, 1) := by decide +kernel
theorem dX4_mendGroup_108 : decode cX4_mendGroup 108 = .ok (.iadd, 1) := by decide +kernel
theorem dX4_mendGroup_109 : decode cX4_mendGroup 109 = .ok (.istore 6, 2) := by decide +kernel
theorem dX4_mendGroup_111 : decode cX4_mendGroup 111 = .ok (.iload 6, 2) := by decide +kernel
theorem dX4_mendGroup_113 : decode cX4_mendGroup 113 = .ok (.iload 4, 2) := by decide +kernel
theorem dX4_mendGroup_115 : decode cX4_mendGroup 115 = .ok (.if_icmp .eq 11, 3) := by decide +kernel
theorem dX4_mendGroup_118 : decode cX4_mendGroup 118 = .ok (.aload_n 0, 1) := by decide +kernel
theorem dX4_mendGroup_119 : decode cX4_mendGroup 119 = .ok (.iload 6, 2) := by decide +kernel
theorem dX4_mendGroup_121 : decode cX4_mendGroup 121 = .ok (.iload 4, 2) := by decide +kernel
theorem dX4_mendGroup_123 : decode cX4_mendGroup 123 = .ok (.invokevirtual 89, 3) := by decide +kernel
theorem dX4_mendGroup_126 : decode cX4_mendGroup 126 = .ok (.iinc 5 1, 3) := by decide +kernel
theorem dX4_mendGroup_129 : decode cX4_mendGroup 129 = .ok (.goto (-32), 3) := by decide +kernel
theorem dX4_mendGroup_132 : decode cX4_mendGroup 132 = .ok (.aload_n 0, 1) := by decide +kernel
theorem dX4_mendGroup_133 : decode cX4_mendGroup 133 = .ok (.getfield 15, 3) := by decide +kernel
theorem dX4_mendGroup_136 : decode cX4_mendGroup 136 = .ok (.iload 4, 2) := by decide +kernel
theorem dX4_mendGroup_138 : decode cX4_mendGroup 138 = .ok (.iconst 1, 1) := by decide +kernel
theorem dX4_mendGroup_139 : decode cX4_mendGroup 139 = .ok (.bastore, 1) := by decide +kernel
theorem dX4_mendGroup_140 : decode cX4_mendGroup 140 = .ok (.iconst 1, 1) := by decide +kernel
theorem dX4_mendGroup_141 : decode cX4_mendGroup 141 = .ok (.ireturn, 1) := by decide +kernel
theorem dX4_addDifference_0 : decode cX4_addDifference 0 = .ok (.aload_n 0, 1) := by decide +kernel
theorem dX4_addDifference_1 : decode cX4_addDifference 1 = .ok (.getfield 69, 3) := by decide +kernel
theorem dX4_addDifference_4 : decode cX4_addDifference 4 = .ok (.iload_n 1, 1) := by decide +kernel
theorem dX4_addDifference_5 : decode cX4_addDifference 5 = .ok (.iadd, 1) := by decide +kernel
theorem dX4_addDifference_6 : decode cX4_addDifference 6 = .ok (.sipush 256, 3) := by decide +kernel
theorem dX4_addDifference_9 : decode cX4_addDifference 9 = .ok (.irem, 1) := by decide +kernel
theorem dX4_addDifference_10 : decode cX4_addDifference 10 = .ok (.sipush 188, 3) := by decide +kernel
theorem dX4_addDifference_13 : decode cX4_addDifference 13 = .ok (.imul, 1) := by decide +kernel
theorem dX4_addDifference_14 : decode cX4_addDifference 14 = .ok (.istore_n 3, 1) := by decide +kernel
theorem dX4_addDifference_15 : decode cX4_addDifference 15 = .ok (.iconst 0, 1) := by decide +kernel
theorem dX4_addDifference_16 : decode cX4_addDifference 16 = .ok (.istore 4, 2) := by decide +kernel
theorem dX4_addDifference_18 : decode cX4_addDifference 18 = .ok (.iload 4, 2) := by decide +kernel
theorem dX4_addDifference_20 : decode cX4_addDifference 20 = .ok (.sipush 188, 3) := by decide +kernel
theorem dX4_addDifference_23 : decode cX4_addDifference 23 = .ok (.if_icmp .ge 50, 3) := by decide +kernel
theorem dX4_addDifference_26 : decode cX4_addDifference 26 = .ok (.aload_n 0, 1) := by decide +kernel
theorem dX4_addDifference_27 : decode cX4_addDifference 27 = .ok (.getfield 11, 3) := by decide +kernel
theorem dX4_addDifference_30 : decode cX4_addDifference 30 = .ok (.iload_n 2, 1) := by decide +kernel
theorem dX4_addDifference_31 : decode cX4_addDifference 31 = .ok (.sipush 188, 3) := by decide +kernel
theorem dX4_addDifference_34 : decode cX4_addDifference 34 = .ok (.imul, 1) := by decide +kernel
theorem dX4_addDifference_35 : decode cX4_addDifference 35 = .ok (.iload 4, 2) := by decide +kernel
theorem dX4_addDifference_37 : decode cX4_addDifference 37 = .ok (.iadd, 1) := by decide +kernel
theorem dX4_addDifference_38 : decode cX4_addDifference 38 = .ok (.dup2, 1) := by decide +kernel
theorem dX4_addDifference_39 : decode cX4_addDifference 39 = .ok (.baload, 1) := by decide +kernel
theorem dX4_addDifference_40 : decode cX4_addDifference 40 = .ok (.aload_n 0, 1) := by decide +kernel
theorem dX4_addDifference_41 : decode cX4_addDifference 41 = .ok (.getfield 45, 3) := by decide +kernel
theorem dX4_addDifference_44 : decode cX4_addDifference 44 = .ok (.iload_n 3, 1) := by decide +kernel
theorem dX4_addDifference_45 : decode cX4_addDifference 45 = .ok (.iload 4, 2) := by decide +kernel
theorem dX4_addDifference_47 : decode cX4_addDifference 47 = .ok (.iadd, 1) := by decide +kernel
theorem dX4_addDifference_48 : decode cX4_addDifference 48 = .ok (.baload, 1) := by decide +kernel
theorem dX4_addDifference_49 : decode cX4_addDifference 49 = .ok (.aload_n 0, 1) := by decide +kernel
theorem dX4_addDifference_50 : decode cX4_addDifference 50 = .ok (.getfield 11, 3) := by decide +kernel
theorem dX4_addDifference_53 : decode cX4_addDifference 53 = .ok (.iload_n 1, 1) := by decide +kernel
theorem dX4_addDifference_54 : decode cX4_addDifference 54 = .ok (.sipush 188, 3) := by decide +kernel
theorem dX4_addDifference_57 : decode cX4_addDifference 57 = .ok (.imul, 1) := by decide +kernel
theorem dX4_addDifference_58 : decode cX4_addDifference 58 = .ok (.iload 4, 2) := by decide +kernel
theorem dX4_addDifference_60 : decode cX4_addDifference 60 = .ok (.iadd, 1) := by decide +kernel
theorem dX4_addDifference_61 : decode cX4_addDifference 61 = .ok (.baload, 1) := by decide +kernel
theorem dX4_addDifference_62 : decode cX4_addDifference 62 = .ok (.ixor, 1) := by decide +kernel
theorem dX4_addDifference_63 : decode cX4_addDifference 63 = .ok (.i2b, 1) := by decide +kernel
theorem dX4_addDifference_64 : decode cX4_addDifference 64 = .ok (.ixor, 1) := by decide +kernel
theorem dX4_addDifference_65 : decode cX4_addDifference 65 = .ok (.i2b, 1) := by decide +kernel
theorem dX4_addDifference_66 : decode cX4_addDifference 66 = .ok (.bastore, 1) := by decide +kernel
theorem dX4_addDifference_67 : decode cX4_addDifference 67 = .ok (.iinc 4 1, 3) := by decide +kernel
theorem dX4_addDifference_70 : decode cX4_addDifference 70 = .ok (.goto (-52), 3) := by decide +kernel
theorem dX4_addDifference_73 : decode cX4_addDifference 73 = .ok (.return_, 1) := by decide +kernel
theorem dX5_init_0 : decode cX5_init 0 = .ok (.aload_n 0, 1) := by decide +kernel
theorem dX5_init_1 : decode cX5_init 1 = .ok (.invokespecial 3, 3) := by decide +kernel
theorem dX5_init_4 : decode cX5_init 4 = .ok (.aload_n 0, 1) := by decide +kernel
theorem dX5_init_5 : decode cX5_init 5 = .ok (.sipush 300, 3) := by decide +kernel
theorem dX5_init_8 : decode cX5_init 8 = .ok (.newarray .int, 2) := by decide +kernel
theorem dX5_init_10 : decode cX5_init 10 = .ok (.putfield 9, 3) := by decide +kernel
theorem dX5_init_13 : decode cX5_init 13 = .ok (.aload_n 0, 1) := by decide +kernel
theorem dX5_init_14 : decode cX5_init 14 = .ok (.sipush 300, 3) := by decide +kernel
theorem dX5_init_17 : decode cX5_init 17 = .ok (.newarray .int, 2) := by decide +kernel
theorem dX5_init_19 : decode cX5_init 19 = .ok (.putfield 15, 3) := by decide +kernel
theorem dX5_init_22 : decode cX5_init 22 = .ok (.return_, 1) := by decide +kernel
theorem dX5_add_0 : decode cX5_add 0 = .ok (.aload_n 0, 1) := by decide +kernel
theorem dX5_add_1 : decode cX5_add 1 = .ok (.getfield 18, 3) := by decide +kernel
theorem dX5_add_4 : decode cX5_add 4 = .ok (.sipush 300, 3) := by decide +kernel
theorem dX5_add_7 : decode cX5_add 7 = .ok (.if_icmp .lt 4, 3) := by decide +kernel
theorem dX5_add_10 : decode cX5_add 10 = .ok (.return_, 1) := by decide +kernel
theorem dX5_add_11 : decode cX5_add 11 = .ok (.aload_n 0, 1) := by decide +kernel
theorem dX5_add_12 : decode cX5_add 12 = .ok (.dup, 1) := by decide +kernel
theorem dX5_add_13 : decode cX5_add 13 = .ok (.getfield 18, 3) := by decide +kernel
theorem dX5_add_16 : decode cX5_add 16 = .ok (.dup_x1, 1) := by decide +kernel
theorem dX5_add_17 : decode cX5_add 17 = .ok (.iconst 1, 1) := by decide +kernel
theorem dX5_add_18 : decode cX5_add 18 = .ok (.iadd, 1) := by decide +kernel
theorem dX5_add_19 : decode cX5_add 19 = .ok (.putfield 18, 3) := by decide +kernel
theorem dX5_add_22 : decode cX5_add 22 = .ok (.istore_n 3, 1) := by decide +kernel
theorem dX5_add_23 : decode cX5_add 23 = .ok (.iload_n 3, 1) := by decide +kernel
theorem dX5_add_24 : decode cX5_add 24 = .ok (.ifCond .le 49, 3) := by decide +kernel
theorem dX5_add_27 : decode cX5_add 27 = .ok (.aload_n 0, 1) := by decide +kernel
theorem dX5_add_28 : decode cX5_add 28 = .ok (.getfield 9, 3) := by decide +kernel
theorem dX5_add_31 : decode cX5_add 31 = .ok (.iload_n 3, 1) := by decide +kernel
theorem dX5_add_32 : decode cX5_add 32 = .ok (.iconst 1, 1) := by decide +kernel
theorem dX5_add_33 : decode cX5_add 33 = .ok (.isub, 1) := by decide +kernel
theorem dX5_add_34 : decode cX5_add 34 = .ok (.iaload, 1) := by decide +kernel
theorem dX5_add_35 : decode cX5_add 35 = .ok (.iload_n 1, 1) := by decide +kernel
theorem dX5_add_36 : decode cX5_add 36 = .ok (.if_icmp .ge 37, 3) := by decide +kernel
theorem dX5_add_39 : decode cX5_add 39 = .ok (.aload_n 0, 1) := by decide +kernel
theorem dX5_add_40 : decode cX5_add 40 = .ok (.getfield 9, 3) := by decide +kernel
theorem dX5_add_43 : decode cX5_add 43 = .ok (.iload_n 3, 1) := by decide +kernel
theorem dX5_add_44 : decode cX5_add 44 = .ok (.aload_n 0, 1) := by decide +kernel
theorem dX5_add_45 : decode cX5_add 45 = .ok (.getfield 9, 3) := by decide +kernel
theorem dX5_add_48 : decode cX5_add 48 = .ok (.iload_n 3, 1) := by decide +kernel
theorem dX5_add_49 : decode cX5_add 49 = .ok (.iconst 1, 1) := by decide +kernel
theorem dX5_add_50 : decode cX5_add 50 = .ok (.isub, 1) := by decide +kernel
theorem dX5_add_51 : decode cX5_add 51 = .ok (.iaload, 1) := by decide +kernel
theorem dX5_add_52 : decode cX5_add 52 = .ok (.iastore, 1) := by decide +kernel
theorem dX5_add_53 : decode cX5_add 53 = .ok (.aload_n 0, 1) := by decide +kernel
theorem dX5_add_54 : decode cX5_add 54 = .ok (.getfield 15, 3) := by decide +kernel
theorem dX5_add_57 : decode cX5_add 57 = .ok (.iload_n 3, 1) := by decide +kernel
theorem dX5_add_58 : decode cX5_add 58 = .ok (.aload_n 0, 1) := by decide +kernel
theorem dX5_add_59 : decode cX5_add 59 = .ok (.getfield 15, 3) := by decide +kernel
theorem dX5_add_62 : decode cX5_add 62 = .ok (.iload_n 3, 1) := by decide +kernel
theorem dX5_add_63 : decode cX5_add 63 = .ok (.iconst 1, 1) := by decide +kernel
theorem dX5_add_64 : decode cX5_add 64 = .ok (.isub, 1) := by decide +kernel
theorem dX5_add_65 : decode cX5_add 65 = .ok (.iaload, 1) := by decide +kernel
theorem dX5_add_66 : decode cX5_add 66 = .ok (.iastore, 1) := by decide +kernel
theorem dX5_add_67 : decode cX5_add 67 = .ok (.iinc 3 (-1), 3) := by decide +kernel
theorem dX5_add_70 : decode cX5_add 70 = .ok (.goto (-47), 3) := by decide +kernel
theorem dX5_add_73 : decode cX5_add 73 = .ok (.aload_n 0, 1) := by decide +kernel
theorem dX5_add_74 : decode cX5_add 74 = .ok (.getfield 9, 3) := by decide +kernel
theorem dX5_add_77 : decode cX5_add 77 = .ok (.iload_n 3, 1) := by decide +kernel
theorem dX5_add_78 : decode cX5_add 78 = .ok (.iload_n 1, 1) := by decide +kernel
theorem dX5_add_79 : decode cX5_add 79 = .ok (.iastore, 1) := by decide +kernel
theorem dX5_add_80 : decode cX5_add 80 = .ok (.aload_n 0, 1) := by decide +kernel
theorem dX5_add_81 : decode cX5_add 81 = .ok (.getfield 15, 3) := by decide +kernel
theorem dX5_add_84 : decode cX5_add 84 = .ok (.iload_n 3, 1) := by decide +kernel
theorem dX5_add_85 : decode cX5_add 85 = .ok (.iload_n 2, 1) := by decide +kernel
theorem dX5_add_86 : decode cX5_add 86 = .ok (.iastore, 1) := by decide +kernel
theorem dX5_add_87 : decode cX5_add 87 = .ok (.return_, 1) := by decide +kernel
theorem dX5_next_0 : decode cX5_next 0 = .ok (.aload_n 0, 1) := by decide +kernel
theorem dX5_next_1 : decode cX5_next 1 = .ok (.getfield 18, 3) := by decide +kernel
theorem dX5_next_4 : decode cX5_next 4 = .ok (.ifCond .eq 18, 3) := by decide +kernel
theorem dX5_next_7 : decode cX5_next 7 = .ok (.aload_n 0, 1) := by decide +kernel
theorem dX5_next_8 : decode cX5_next 8 = .ok (.getfield 9, 3) := by decide +kernel
theorem dX5_next_11 : decode cX5_next 11 = .ok (.aload_n 0, 1) := by decide +kernel
theorem dX5_next_12 : decode cX5_next 12 = .ok (.getfield 18, 3) := by decide +kernel
theorem dX5_next_15 : decode cX5_next 15 = .ok (.iconst 1, 1) := by decide +kernel
theorem dX5_next_16 : decode cX5_next 16 = .ok (.isub, 1) := by decide +kernel
theorem dX5_next_17 : decode cX5_next 17 = .ok (.iaload, 1) := by decide +kernel
theorem dX5_next_18 : decode cX5_next 18 = .ok (.iload_n 1, 1) := by decide +kernel
theorem dX5_next_19 : decode cX5_next 19 = .ok (.if_icmp .eq 5, 3) := by decide +kernel
theorem dX5_next_22 : decode cX5_next 22 = .ok (.iconst (-1), 1) := by decide +kernel
theorem dX5_next_23 : decode cX5_next 23 = .ok (.ireturn, 1) := by decide +kernel
theorem dX5_next_24 : decode cX5_next 24 = .ok (.aload_n 0, 1) := by decide +kernel
theorem dX5_next_25 : decode cX5_next 25 = .ok (.getfield 15, 3) := by decide +kernel
theorem dX5_next_28 : decode cX5_next 28 = .ok (.aload_n 0, 1) := by decide +kernel
theorem dX5_next_29 : decode cX5_next 29 = .ok (.dup, 1) := by decide +kernel
theorem dX5_next_30 : decode cX5_next 30 = .ok (.getfield 18, 3) := by decide +kernel
theorem dX5_next_33 : decode cX5_next 33 = .ok (.iconst 1, 1) := by decide +kernel
theorem dX5_next_34 : decode cX5_next 34 = .ok (.isub, 1) := by decide +kernel
theorem dX5_next_35 : decode cX5_next 35 = .ok (.dup_x1, 1) := by decide +kernel
theorem dX5_next_36 : decode cX5_next 36 = .ok (.putfield 18, 3) := by decide +kernel
theorem dX5_next_39 : decode cX5_next 39 = .ok (.iaload, 1) := by decide +kernel
theorem dX5_next_40 : decode cX5_next 40 = .ok (.ireturn, 1) := by decide +kernel
theorem dX6_init_0 : decode cX6_init 0 = .ok (.aload_n 0, 1) := by decide +kernel
theorem dX6_init_1 : decode cX6_init 1 = .ok (.invokespecial 3, 3) := by decide +kernel
theorem dX6_init_4 : decode cX6_init 4 = .ok (.aload_n 0, 1) := by decide +kernel
theorem dX6_init_5 : decode cX6_init 5 = .ok (.sipush 420, 3) := by decide +kernel
theorem dX6_init_8 : decode cX6_init 8 = .ok (.newarray .int, 2) := by decide +kernel
theorem dX6_init_10 : decode cX6_init 10 = .ok (.putfield 11, 3) := by decide +kernel
theorem dX6_init_13 : decode cX6_init 13 = .ok (.aload_n 0, 1) := by decide +kernel
theorem dX6_init_14 : decode cX6_init 14 = .ok (.iconst (-1), 1) := by decide +kernel
theorem dX6_init_15 : decode cX6_init 15 = .ok (.putfield 15, 3) := by decide +kernel
theorem dX6_init_18 : decode cX6_init 18 = .ok (.aload_n 0, 1) := by decide +kernel
theorem dX6_init_19 : decode cX6_init 19 = .ok (.iconst (-1), 1) := by decide +kernel
theorem dX6_init_20 : decode cX6_init 20 = .ok (.putfield 19, 3) := by decide +kernel
theorem dX6_init_23 : decode cX6_init 23 = .ok (.aload_n 0, 1) := by decide +kernel
theorem dX6_init_24 : decode cX6_init 24 = .ok (.iconst 2, 1) := by decide +kernel
theorem dX6_init_25 : decode cX6_init 25 = .ok (.newarray .int, 2) := by decide +kernel
theorem dX6_init_27 : decode cX6_init 27 = .ok (.putfield 22, 3) := by decide +kernel
theorem dX6_init_30 : decode cX6_init 30 = .ok (.aload_n 0, 1) := by decide +kernel
theorem dX6_init_31 : decode cX6_init 31 = .ok (.iconst 2, 1) := by decide +kernel
theorem dX6_init_32 : decode cX6_init 32 = .ok (.newarray .int, 2) := by decide +kernel
theorem dX6_init_34 : decode cX6_init 34 = .ok (.putfield 25, 3) := by decide +kernel
theorem dX6_init_37 : decode cX6_init 37 = .ok (.aload_n 0, 1) := by decide +kernel
theorem dX6_init_38 : decode cX6_init 38 = .ok (.iconst (-1), 1) := by decide +kernel
theorem dX6_init_39 : decode cX6_init 39 = .ok (.putfield 28, 3) := by decide +kernel
theorem dX6_init_42 : decode cX6_init 42 = .ok (.aload_n 0, 1) := by decide +kernel
theorem dX6_init_43 : decode cX6_init 43 = .ok (.sipush 15000, 3) := by decide +kernel
theorem dX6_init_46 : decode cX6_init 46 = .ok (.newarray .int, 2) := by decide +kernel
theorem dX6_init_48 : decode cX6_init 48 = .ok (.putfield 31, 3) := by decide +kernel
theorem dX6_init_51 : decode cX6_init 51 = .ok (.aload_n 0, 1) := by decide +kernel
theorem dX6_init_52 : decode cX6_init 52 = .ok (.sipush 3000, 3) := by decide +kernel
theorem dX6_init_55 : decode cX6_init 55 = .ok (.newarray .int, 2) := by decide +kernel
theorem dX6_init_57 : decode cX6_init 57 = .ok (.putfield 34, 3) := by decide +kernel
theorem dX6_init_60 : decode cX6_init 60 = .ok (.aload_n 0, 1) := by decide +kernel
theorem dX6_init_61 : decode cX6_init 61 = .ok (.aload_n 1, 1) := by decide +kernel
theorem dX6_init_62 : decode cX6_init 62 = .ok (.putfield 37, 3) := by decide +kernel
theorem dX6_init_65 : decode cX6_init 65 = .ok (.return_, 1) := by decide +kernel
theorem dX6_add_0 : decode cX6_add 0 = .ok (.aload_n 0, 1) := by decide +kernel
theorem dX6_add_1 : decode cX6_add 1 = .ok (.getfield 41, 3) := by decide +kernel
theorem dX6_add_4 : decode cX6_add 4 = .ok (.bipush 60, 2) := by decide +kernel
theorem dX6_add_6 : decode cX6_add 6 = .ok (.if_icmp .lt 6, 3) := by decide +kernel
theorem dX6_add_9 : decode cX6_add 9 = .ok (.bipush (-3), 2) := by decide +kernel
theorem dX6_add_11 : decode cX6_add 11 = .ok (.ireturn, 1) := by decide +kernel
theorem dX6_add_12 : decode cX6_add 12 = .ok (.aload_n 0, 1) := by decide +kernel
theorem dX6_add_13 : decode cX6_add 13 = .ok (.getfield 41, 3) := by decide +kernel
theorem dX6_add_16 : decode cX6_add 16 = .ok (.bipush 7, 2) := by decide +kernel
theorem dX6_add_18 : decode cX6_add 18 = .ok (.imul, 1) := by decide +kernel
theorem dX6_add_19 : decode cX6_add 19 = .ok (.istore 5, 2) := by decide +kernel
theorem dX6_add_21 : decode cX6_add 21 = .ok (.aload_n 0, 1) := by decide +kernel
theorem dX6_add_22 : decode cX6_add 22 = .ok (.getfield 11, 3) := by decide +kernel
theorem dX6_add_25 : decode cX6_add 25 = .ok (.iload 5, 2) := by decide +kernel
theorem dX6_add_27 : decode cX6_add 27 = .ok (.iconst 2, 1) := by decide +kernel
theorem dX6_add_28 : decode cX6_add 28 = .ok (.iadd, 1) := by decide +kernel
theorem dX6_add_29 : decode cX6_add 29 = .ok (.iload 4, 2) := by decide +kernel
theorem dX6_add_31 : decode cX6_add 31 = .ok (.iastore, 1) := by decide +kernel
theorem dX6_add_32 : decode cX6_add 32 = .ok (.aload_n 0, 1) := by decide +kernel
theorem dX6_add_33 : decode cX6_add 33 = .ok (.getfield 11, 3) := by decide +kernel
theorem dX6_add_36 : decode cX6_add 36 = .ok (.iload 5, 2) := by decide +kernel
theorem dX6_add_38 : decode cX6_add 38 = .ok (.iconst 3, 1) := by decide +kernel
theorem dX6_add_39 : decode cX6_add 39 = .ok (.iadd, 1) := by decide +kernel
theorem dX6_add_40 : decode cX6_add 40 = .ok (.iconst (-1), 1) := by decide +kernel
theorem dX6_add_41 : decode cX6_add 41 = .ok (.iastore, 1) := by decide +kernel
theorem dX6_add_42 : decode cX6_add 42 = .ok (.aload_n 0, 1) := by decide +kernel
theorem dX6_add_43 : decode cX6_add 43 = .ok (.getfield 11, 3) := by decide +kernel
theorem dX6_add_46 : decode cX6_add 46 = .ok (.iload 5, 2) := by decide +kernel
theorem dX6_add_48 : decode cX6_add 48 = .ok (.iconst 4, 1) := by decide +kernel
theorem dX6_add_49 : decode cX6_add 49 = .ok (.iadd, 1) := by decide +kernel
theorem dX6_add_50 : decode cX6_add 50 = .ok (.iload_n 1, 1) := by decide +kernel
theorem dX6_add_51 : decode cX6_add 51 = .ok (.iastore, 1) := by decide +kernel
theorem dX6_add_52 : decode cX6_add 52 = .ok (.aload_n 0, 1) := by decide +kernel
theorem dX6_add_53 : decode cX6_add 53 = .ok (.getfield 11, 3) := by decide +kernel
theorem dX6_add_56 : decode cX6_add 56 = .ok (.iload 5, 2) := by decide +kernel
theorem dX6_add_58 : decode cX6_add 58 = .ok (.iconst 5, 1) := by decide +kernel
theorem dX6_add_59 : decode cX6_add 59 = .ok (.iadd, 1) := by decide +kernel
theorem dX6_add_60 : decode cX6_add 60 = .ok (.iload_n 2, 1) := by decide +kernel
theorem dX6_add_61 : decode cX6_add 61 = .ok (.iastore, 1) := by decide +kernel
theorem dX6_add_62 : decode cX6_add 62 = .ok (.aload_n 0, 1) := by decide +kernel
theorem dX6_add_63 : decode cX6_add 63 = .ok (.getfield 11, 3) := by decide +kernel
theorem dX6_add_66 : decode cX6_add 66 = .ok (.iload 5, 2) := by decide +kernel
theorem dX6_add_68 : decode cX6_add 68 = .ok (.bipush 6, 2) := by decide +kernel
theorem dX6_add_70 : decode cX6_add 70 = .ok (.iadd, 1) := by decide +kernel
theorem dX6_add_71 : decode cX6_add 71 = .ok (.iload_n 3, 1) := by decide +kernel
theorem dX6_add_72 : decode cX6_add 72 = .ok (.iastore, 1) := by decide +kernel
theorem dX6_add_73 : decode cX6_add 73 = .ok (.iload_n 1, 1) := by decide +kernel
theorem dX6_add_74 : decode cX6_add 74 = .ok (.iconst 1, 1) := by decide +kernel
theorem dX6_add_75 : decode cX6_add 75 = .ok (.if_icmp .ne 8, 3) := by decide +kernel
theorem dX6_add_78 : decode cX6_add 78 = .ok (.aload_n 0, 1) := by decide +kernel
theorem dX6_add_79 : decode cX6_add 79 = .ok (.iload_n 2, 1) := by decide +kernel
theorem dX6_add_80 : decode cX6_add 80 = .ok (.putfield 15, 3) := by decide +kernel
theorem dX6_add_83 : decode cX6_add 83 = .ok (.aload_n 0, 1) := by decide +kernel
theorem dX6_add_84 : decode cX6_add 84 = .ok (.dup, 1) := by decide +kernel
theorem dX6_add_85 : decode cX6_add 85 = .ok (.getfield 41, 3) := by decide +kernel
theorem dX6_add_88 : decode cX6_add 88 = .ok (.dup_x1, 1) := by decide +kernel
theorem dX6_add_89 : decode cX6_add 89 = .ok (.iconst 1, 1) := by decide +kernel
theorem dX6_add_90 : decode cX6_add 90 = .ok (.iadd, 1) := by decide +kernel
theorem dX6_add_91 : decode cX6_add 91 = .ok (.putfield 41, 3) := by decide +kernel
theorem dX6_add_94 : decode cX6_add 94 = .ok (.ireturn, 1) := by decide +kernel
theorem dX6_skipPlanned_0 : decode cX6_skipPlanned 0 = .ok (.aload_n 0, 1) := by decide +kernel
theorem dX6_skipPlanned_1 : decode cX6_skipPlanned 1 = .ok (.iload_n 1, 1) := by decide +kernel
theorem dX6_skipPlanned_2 : decode cX6_skipPlanned 2 = .ok (.iconst 0, 1) := by decide +kernel
theorem dX6_skipPlanned_3 : decode cX6_skipPlanned 3 = .ok (.invokevirtual 44, 3) := by decide +kernel
theorem dX6_skipPlanned_6 : decode cX6_skipPlanned 6 = .ok (.ifCond .eq 5, 3) := by decide +kernel
theorem dX6_skipPlanned_9 : decode cX6_skipPlanned 9 = .ok (.iconst 0, 1) := by decide +kernel
theorem dX6_skipPlanned_10 : decode cX6_skipPlanned 10 = .ok (.ireturn, 1) := by decide +kernel
theorem dX6_skipPlanned_11 : decode cX6_skipPlanned 11 = .ok (.aload_n 0, 1) := by decide +kernel
theorem dX6_skipPlanned_12 : decode cX6_skipPlanned 12 = .ok (.getfield 11, 3) := by decide +kernel
theorem dX6_skipPlanned_15 : decode cX6_skipPlanned 15 = .ok (.iload_n 1, 1) := by decide +kernel
theorem dX6_skipPlanned_16 : decode cX6_skipPlanned 16 = .ok (.bipush 7, 2) := by decide +kernel
theorem dX6_skipPlanned_18 : decode cX6_skipPlanned 18 = .ok (.imul, 1) := by decide +kernel
theorem dX6_skipPlanned_19 : decode cX6_skipPlanned 19 = .ok (.iconst 0, 1) := by decide +kernel
theorem dX6_skipPlanned_20 : decode cX6_skipPlanned 20 = .ok (.iadd, 1) := by decide +kernel
theorem dX6_skipPlanned_21 : decode cX6_skipPlanned 21 = .ok (.iconst 4, 1) := by decide +kernel
theorem dX6_skipPlanned_22 : decode cX6_skipPlanned 22 = .ok (.iastore, 1) := by decide +kernel
theorem dX6_skipPlanned_23 : decode cX6_skipPlanned 23 = .ok (.iconst 1, 1) := by decide +kernel
theorem dX6_skipPlanned_24 : decode cX6_skipPlanned 24 = .ok (.ireturn, 1) := by decide +kernel
theorem dX6_lengthen_0 : decode cX6_lengthen 0 = .ok (.aload_n 0, 1) := by decide +kernel
theorem dX6_lengthen_1 : decode cX6_lengthen 1 = .ok (.getfield 19, 3) := by decide +kernel
theorem dX6_lengthen_4 : decode cX6_lengthen 4 = .ok (.iconst (-1), 1) := by decide +kernel
theorem dX6_lengthen_5 : decode cX6_lengthen 5 = .ok (.if_icmp .eq 20, 3) := by decide +kernel
theorem dX6_lengthen_8 : decode cX6_lengthen 8 = .ok (.aload_n 0, 1) := by decide +kernel
theorem dX6_lengthen_9 : decode cX6_lengthen 9 = .ok (.aload_n 0, 1) := by decide +kernel
theorem dX6_lengthen_10 : decode cX6_lengthen 10 = .ok (.getfield 19, 3) := by decide +kernel
theorem dX6_lengthen_13 : decode cX6_lengthen 13 = .ok (.iconst 2, 1) := by decide +kernel
theorem dX6_lengthen_14 : decode cX6_lengthen 14 = .ok (.invokevirtual 44, 3) := by decide +kernel
theorem dX6_lengthen_17 : decode cX6_lengthen 17 = .ok (.iload_n 1, 1) := by decide +kernel
theorem dX6_lengthen_18 : decode cX6_lengthen 18 = .ok (.iadd, 1) := by decide +kernel
theorem dX6_lengthen_19 : decode cX6_lengthen 19 = .ok (.sipush 2000, 3) := by decide +kernel
