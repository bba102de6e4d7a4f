theorem dX0_init_0 : decode cX0_init 0 = .ok (.aload_n 0, 1) := by decide +kernel
theorem dX0_init_1 : decode cX0_init 1 = .ok (.invokespecial 5, 3) := by decide +kernel
theorem dX0_init_4 : decode cX0_init 4 = .ok (.aload_n 0, 1) := by decide +kernel
theorem dX0_init_5 : decode cX0_init 5 = .ok (.sipush 388, 3) := by decide +kernel
theorem dX0_init_8 : decode cX0_init 8 = .ok (.newarray .int, 2) := by decide +kernel
theorem dX0_init_10 : decode cX0_init 10 = .ok (.putfield 11, 3) := by decide +kernel
theorem dX0_init_13 : decode cX0_init 13 = .ok (.aload_n 0, 1) := by decide +kernel
theorem dX0_init_14 : decode cX0_init 14 = .ok (.bipush 49, 2) := by decide +kernel
theorem dX0_init_16 : decode cX0_init 16 = .ok (.newarray .int, 2) := by decide +kernel
theorem dX0_init_18 : decode cX0_init 18 = .ok (.putfield 15, 3) := by decide +kernel
theorem dX0_init_21 : decode cX0_init 21 = .ok (.aload_n 0, 1) := by decide +kernel
theorem dX0_init_22 : decode cX0_init 22 = .ok (.bipush 48, 2) := by decide +kernel
theorem dX0_init_24 : decode cX0_init 24 = .ok (.newarray .boolean, 2) := by decide +kernel
theorem dX0_init_26 : decode cX0_init 26 = .ok (.putfield 18, 3) := by decide +kernel
theorem dX0_init_29 : decode cX0_init 29 = .ok (.aload_n 0, 1) := by decide +kernel
theorem dX0_init_30 : decode cX0_init 30 = .ok (.bipush 49, 2) := by decide +kernel
theorem dX0_init_32 : decode cX0_init 32 = .ok (.newarray .int, 2) := by decide +kernel
theorem dX0_init_34 : decode cX0_init 34 = .ok (.putfield 22, 3) := by decide +kernel
theorem dX0_init_37 : decode cX0_init 37 = .ok (.aload_n 0, 1) := by decide +kernel
theorem dX0_init_38 : decode cX0_init 38 = .ok (.aload_n 1, 1) := by decide +kernel
theorem dX0_init_39 : decode cX0_init 39 = .ok (.putfield 25, 3) := by decide +kernel
theorem dX0_init_42 : decode cX0_init 42 = .ok (.return_, 1) := by decide +kernel
theorem dX0_make_0 : decode cX0_make 0 = .ok (.iconst 0, 1) := by decide +kernel
theorem dX0_make_1 : decode cX0_make 1 = .ok (.istore_n 1, 1) := by decide +kernel
theorem dX0_make_2 : decode cX0_make 2 = .ok (.iload_n 1, 1) := by decide +kernel
theorem dX0_make_3 : decode cX0_make 3 = .ok (.bipush 48, 2) := by decide +kernel
theorem dX0_make_5 : decode cX0_make 5 = .ok (.if_icmp .ge 16, 3) := by decide +kernel
theorem dX0_make_8 : decode cX0_make 8 = .ok (.aload_n 0, 1) := by decide +kernel
theorem dX0_make_9 : decode cX0_make 9 = .ok (.getfield 18, 3) := by decide +kernel
theorem dX0_make_12 : decode cX0_make 12 = .ok (.iload_n 1, 1) := by decide +kernel
theorem dX0_make_13 : decode cX0_make 13 = .ok (.iconst 0, 1) := by decide +kernel
theorem dX0_make_14 : decode cX0_make 14 = .ok (.bastore, 1) := by decide +kernel
theorem dX0_make_15 : decode cX0_make 15 = .ok (.iinc 1 1, 3) := by decide +kernel
theorem dX0_make_18 : decode cX0_make 18 = .ok (.goto (-16), 3) := by decide +kernel
theorem dX0_make_21 : decode cX0_make 21 = .ok (.iconst 0, 1) := by decide +kernel
theorem dX0_make_22 : decode cX0_make 22 = .ok (.istore_n 1, 1) := by decide +kernel
theorem dX0_make_23 : decode cX0_make 23 = .ok (.iload_n 1, 1) := by decide +kernel
theorem dX0_make_24 : decode cX0_make 24 = .ok (.bipush 48, 2) := by decide +kernel
theorem dX0_make_26 : decode cX0_make 26 = .ok (.if_icmp .gt 23, 3) := by decide +kernel
theorem dX0_make_29 : decode cX0_make 29 = .ok (.aload_n 0, 1) := by decide +kernel
theorem dX0_make_30 : decode cX0_make 30 = .ok (.invokevirtual 29, 3) := by decide +kernel
theorem dX0_make_33 : decode cX0_make 33 = .ok (.aload_n 0, 1) := by decide +kernel
theorem dX0_make_34 : decode cX0_make 34 = .ok (.invokevirtual 32, 3) := by decide +kernel
theorem dX0_make_37 : decode cX0_make 37 = .ok (.ifCond .ne 6, 3) := by decide +kernel
theorem dX0_make_40 : decode cX0_make 40 = .ok (.goto 9, 3) := by decide +kernel
theorem dX0_make_43 : decode cX0_make 43 = .ok (.iinc 1 1, 3) := by decide +kernel
theorem dX0_make_46 : decode cX0_make 46 = .ok (.goto (-23), 3) := by decide +kernel
theorem dX0_make_49 : decode cX0_make 49 = .ok (.aload_n 0, 1) := by decide +kernel
theorem dX0_make_50 : decode cX0_make 50 = .ok (.invokevirtual 29, 3) := by decide +kernel
theorem dX0_make_53 : decode cX0_make 53 = .ok (.aload_n 0, 1) := by decide +kernel
theorem dX0_make_54 : decode cX0_make 54 = .ok (.invokevirtual 36, 3) := by decide +kernel
theorem dX0_make_57 : decode cX0_make 57 = .ok (.aload_n 0, 1) := by decide +kernel
theorem dX0_make_58 : decode cX0_make 58 = .ok (.iconst 1, 1) := by decide +kernel
theorem dX0_make_59 : decode cX0_make 59 = .ok (.putfield 39, 3) := by decide +kernel
theorem dX0_make_62 : decode cX0_make 62 = .ok (.return_, 1) := by decide +kernel
theorem dX0_lengthOf_0 : decode cX0_lengthOf 0 = .ok (.aload_n 0, 1) := by decide +kernel
theorem dX0_lengthOf_1 : decode cX0_lengthOf 1 = .ok (.getfield 15, 3) := by decide +kernel
theorem dX0_lengthOf_4 : decode cX0_lengthOf 4 = .ok (.iload_n 1, 1) := by decide +kernel
theorem dX0_lengthOf_5 : decode cX0_lengthOf 5 = .ok (.iconst 1, 1) := by decide +kernel
theorem dX0_lengthOf_6 : decode cX0_lengthOf 6 = .ok (.iadd, 1) := by decide +kernel
theorem dX0_lengthOf_7 : decode cX0_lengthOf 7 = .ok (.iaload, 1) := by decide +kernel
theorem dX0_lengthOf_8 : decode cX0_lengthOf 8 = .ok (.aload_n 0, 1) := by decide +kernel
theorem dX0_lengthOf_9 : decode cX0_lengthOf 9 = .ok (.getfield 15, 3) := by decide +kernel
theorem dX0_lengthOf_12 : decode cX0_lengthOf 12 = .ok (.iload_n 1, 1) := by decide +kernel
theorem dX0_lengthOf_13 : decode cX0_lengthOf 13 = .ok (.iaload, 1) := by decide +kernel
theorem dX0_lengthOf_14 : decode cX0_lengthOf 14 = .ok (.isub, 1) := by decide +kernel
theorem dX0_lengthOf_15 : decode cX0_lengthOf 15 = .ok (.ireturn, 1) := by decide +kernel
theorem dX0_lengthenBranches_0 : decode cX0_lengthenBranches 0 = .ok (.iconst 0, 1) := by decide +kernel
theorem dX0_lengthenBranches_1 : decode cX0_lengthenBranches 1 = .ok (.istore_n 1, 1) := by decide +kernel
theorem dX0_lengthenBranches_2 : decode cX0_lengthenBranches 2 = .ok (.iconst 0, 1) := by decide +kernel
theorem dX0_lengthenBranches_3 : decode cX0_lengthenBranches 3 = .ok (.istore_n 2, 1) := by decide +kernel
theorem dX0_lengthenBranches_4 : decode cX0_lengthenBranches 4 = .ok (.iload_n 2, 1) := by decide +kernel
theorem dX0_lengthenBranches_5 : decode cX0_lengthenBranches 5 = .ok (.aload_n 0, 1) := by decide +kernel
theorem dX0_lengthenBranches_6 : decode cX0_lengthenBranches 6 = .ok (.getfield 25, 3) := by decide +kernel
theorem dX0_lengthenBranches_9 : decode cX0_lengthenBranches 9 = .ok (.getfield 43, 3) := by decide +kernel
theorem dX0_lengthenBranches_12 : decode cX0_lengthenBranches 12 = .ok (.if_icmp .ge 48, 3) := by decide +kernel
theorem dX0_lengthenBranches_15 : decode cX0_lengthenBranches 15 = .ok (.aload_n 0, 1) := by decide +kernel
theorem dX0_lengthenBranches_16 : decode cX0_lengthenBranches 16 = .ok (.getfield 25, 3) := by decide +kernel
theorem dX0_lengthenBranches_19 : decode cX0_lengthenBranches 19 = .ok (.getfield 49, 3) := by decide +kernel
theorem dX0_lengthenBranches_22 : decode cX0_lengthenBranches 22 = .ok (.iload_n 2, 1) := by decide +kernel
theorem dX0_lengthenBranches_23 : decode cX0_lengthenBranches 23 = .ok (.iaload, 1) := by decide +kernel
theorem dX0_lengthenBranches_24 : decode cX0_lengthenBranches 24 = .ok (.iconst 5, 1) := by decide +kernel
theorem dX0_lengthenBranches_25 : decode cX0_lengthenBranches 25 = .ok (.if_icmp .ne 29, 3) := by decide +kernel
theorem dX0_lengthenBranches_28 : decode cX0_lengthenBranches 28 = .ok (.aload_n 0, 1) := by decide +kernel
theorem dX0_lengthenBranches_29 : decode cX0_lengthenBranches 29 = .ok (.getfield 18, 3) := by decide +kernel
theorem dX0_lengthenBranches_32 : decode cX0_lengthenBranches 32 = .ok (.iload_n 2, 1) := by decide +kernel
theorem dX0_lengthenBranches_33 : decode cX0_lengthenBranches 33 = .ok (.baload, 1) := by decide +kernel
theorem dX0_lengthenBranches_34 : decode cX0_lengthenBranches 34 = .ok (.ifCond .ne 20, 3) := by decide +kernel
theorem dX0_lengthenBranches_37 : decode cX0_lengthenBranches 37 = .ok (.aload_n 0, 1) := by decide +kernel
theorem dX0_lengthenBranches_38 : decode cX0_lengthenBranches 38 = .ok (.iload_n 2, 1) := by decide +kernel
theorem dX0_lengthenBranches_39 : decode cX0_lengthenBranches 39 = .ok (.invokevirtual 52, 3) := by decide +kernel
theorem dX0_lengthenBranches_42 : decode cX0_lengthenBranches 42 = .ok (.ifCond .ne 12, 3) := by decide +kernel
theorem dX0_lengthenBranches_45 : decode cX0_lengthenBranches 45 = .ok (.aload_n 0, 1) := by decide +kernel
theorem dX0_lengthenBranches_46 : decode cX0_lengthenBranches 46 = .ok (.getfield 18, 3) := by decide +kernel
theorem dX0_lengthenBranches_49 : decode cX0_lengthenBranches 49 = .ok (.iload_n 2, 1) := by decide +kernel
theorem dX0_lengthenBranches_50 : decode cX0_lengthenBranches 50 = .ok (.iconst 1, 1) := by decide +kernel
theorem dX0_lengthenBranches_51 : decode cX0_lengthenBranches 51 = .ok (.bastore, 1) := by decide +kernel
theorem dX0_lengthenBranches_52 : decode cX0_lengthenBranches 52 = .ok (.iconst 1, 1) := by decide +kernel
theorem dX0_lengthenBranches_53 : decode cX0_lengthenBranches 53 = .ok (.istore_n 1, 1) := by decide +kernel
theorem dX0_lengthenBranches_54 : decode cX0_lengthenBranches 54 = .ok (.iinc 2 1, 3) := by decide +kernel
theorem dX0_lengthenBranches_57 : decode cX0_lengthenBranches 57 = .ok (.goto (-53), 3) := by decide +kernel
theorem dX0_lengthenBranches_60 : decode cX0_lengthenBranches 60 = .ok (.iload_n 1, 1) := by decide +kernel
theorem dX0_lengthenBranches_61 : decode cX0_lengthenBranches 61 = .ok (.ireturn, 1) := by decide +kernel
theorem dX0_reaches_0 : decode cX0_reaches 0 = .ok (.aload_n 0, 1) := by decide +kernel
theorem dX0_reaches_1 : decode cX0_reaches 1 = .ok (.aload_n 0, 1) := by decide +kernel
theorem dX0_reaches_2 : decode cX0_reaches 2 = .ok (.getfield 15, 3) := by decide +kernel
theorem dX0_reaches_5 : decode cX0_reaches 5 = .ok (.iload_n 1, 1) := by decide +kernel
theorem dX0_reaches_6 : decode cX0_reaches 6 = .ok (.iconst 1, 1) := by decide +kernel
theorem dX0_reaches_7 : decode cX0_reaches 7 = .ok (.iadd, 1) := by decide +kernel
theorem dX0_reaches_8 : decode cX0_reaches 8 = .ok (.iaload, 1) := by decide +kernel
theorem dX0_reaches_9 : decode cX0_reaches 9 = .ok (.iconst 1, 1) := by decide +kernel
theorem dX0_reaches_10 : decode cX0_reaches 10 = .ok (.isub, 1) := by decide +kernel
theorem dX0_reaches_11 : decode cX0_reaches 11 = .ok (.aload_n 0, 1) := by decide +kernel
theorem dX0_reaches_12 : decode cX0_reaches 12 = .ok (.getfield 25, 3) := by decide +kernel
theorem dX0_reaches_15 : decode cX0_reaches 15 = .ok (.getfield 56, 3) := by decide +kernel
theorem dX0_reaches_18 : decode cX0_reaches 18 = .ok (.iload_n 1, 1) := by decide +kernel
theorem dX0_reaches_19 : decode cX0_reaches 19 = .ok (.iaload, 1) := by decide +kernel
theorem dX0_reaches_20 : decode cX0_reaches 20 = .ok (.invokevirtual 59, 3) := by decide +kernel
theorem dX0_reaches_23 : decode cX0_reaches 23 = .ok (.istore_n 2, 1) := by decide +kernel
theorem dX0_reaches_24 : decode cX0_reaches 24 = .ok (.iload_n 2, 1) := by decide +kernel
theorem dX0_reaches_25 : decode cX0_reaches 25 = .ok (.bipush (-128), 2) := by decide +kernel
theorem dX0_reaches_27 : decode cX0_reaches 27 = .ok (.if_icmp .lt 13, 3) := by decide +kernel
theorem dX0_reaches_30 : decode cX0_reaches 30 = .ok (.iload_n 2, 1) := by decide +kernel
theorem dX0_reaches_31 : decode cX0_reaches 31 = .ok (.bipush 127, 2) := by decide +kernel
theorem dX0_reaches_33 : decode cX0_reaches 33 = .ok (.if_icmp .gt 7, 3) := by decide +kernel
theorem dX0_reaches_36 : decode cX0_reaches 36 = .ok (.iconst 1, 1) := by decide +kernel
theorem dX0_reaches_37 : decode cX0_reaches 37 = .ok (.goto 4, 3) := by decide +kernel
theorem dX0_reaches_40 : decode cX0_reaches 40 = .ok (.iconst 0, 1) := by decide +kernel
theorem dX0_reaches_41 : decode cX0_reaches 41 = .ok (.ireturn, 1) := by decide +kernel
theorem dX0_distance_0 : decode cX0_distance 0 = .ok (.aload_n 0, 1) := by decide +kernel
theorem dX0_distance_1 : decode cX0_distance 1 = .ok (.getfield 15, 3) := by decide +kernel
theorem dX0_distance_4 : decode cX0_distance 4 = .ok (.iload_n 2, 1) := by decide +kernel
theorem dX0_distance_5 : decode cX0_distance 5 = .ok (.iaload, 1) := by decide +kernel
theorem dX0_distance_6 : decode cX0_distance 6 = .ok (.iload_n 1, 1) := by decide +kernel
theorem dX0_distance_7 : decode cX0_distance 7 = .ok (.isub, 1) := by decide +kernel
theorem dX0_distance_8 : decode cX0_distance 8 = .ok (.iconst 2, 1) := by decide +kernel
theorem dX0_distance_9 : decode cX0_distance 9 = .ok (.isub, 1) := by decide +kernel
theorem dX0_distance_10 : decode cX0_distance 10 = .ok (.ireturn, 1) := by decide +kernel
theorem dX0_writeCode_0 : decode cX0_writeCode 0 = .ok (.aload_n 0, 1) := by decide +kernel
theorem dX0_writeCode_1 : decode cX0_writeCode 1 = .ok (.iconst 0, 1) := by decide +kernel
theorem dX0_writeCode_2 : decode cX0_writeCode 2 = .ok (.putfield 63, 3) := by decide +kernel
theorem dX0_writeCode_5 : decode cX0_writeCode 5 = .ok (.aload_n 0, 1) := by decide +kernel
theorem dX0_writeCode_6 : decode cX0_writeCode 6 = .ok (.iconst 0, 1) := by decide +kernel
theorem dX0_writeCode_7 : decode cX0_writeCode 7 = .ok (.putfield 66, 3) := by decide +kernel
theorem dX0_writeCode_10 : decode cX0_writeCode 10 = .ok (.aload_n 0, 1) := by decide +kernel
theorem dX0_writeCode_11 : decode cX0_writeCode 11 = .ok (.ldc 69, 2) := by decide +kernel
theorem dX0_writeCode_13 : decode cX0_writeCode 13 = .ok (.iconst 3, 1) := by decide +kernel
theorem dX0_writeCode_14 : decode cX0_writeCode 14 = .ok (.invokevirtual 70, 3) := by decide +kernel
theorem dX0_writeCode_17 : decode cX0_writeCode 17 = .ok (.iconst 0, 1) := by decide +kernel
theorem dX0_writeCode_18 : decode cX0_writeCode 18 = .ok (.istore_n 1, 1) := by decide +kernel
theorem dX0_writeCode_19 : decode cX0_writeCode 19 = .ok (.iload_n 1, 1) := by decide +kernel
theorem dX0_writeCode_20 : decode cX0_writeCode 20 = .ok (.aload_n 0, 1) := by decide +kernel
theorem dX0_writeCode_21 : decode cX0_writeCode 21 = .ok (.getfield 25, 3) := by decide +kernel
theorem dX0_writeCode_24 : decode cX0_writeCode 24 = .ok (.getfield 43, 3) := by decide +kernel
theorem dX0_writeCode_27 : decode cX0_writeCode 27 = .ok (.if_icmp .ge 24, 3) := by decide +kernel
theorem dX0_writeCode_30 : decode cX0_writeCode 30 = .ok (.aload_n 0, 1) := by decide +kernel
theorem dX0_writeCode_31 : decode cX0_writeCode 31 = .ok (.getfield 15, 3) := by decide +kernel
theorem dX0_writeCode_34 : decode cX0_writeCode 34 = .ok (.iload_n 1, 1) := by decide +kernel
theorem dX0_writeCode_35 : decode cX0_writeCode 35 = .ok (.aload_n 0, 1) := by decide +kernel
theorem dX0_writeCode_36 : decode cX0_writeCode 36 = .ok (.getfield 63, 3) := by decide +kernel
theorem dX0_writeCode_39 : decode cX0_writeCode 39 = .ok (.iastore, 1) := by decide +kernel
theorem dX0_writeCode_40 : decode cX0_writeCode 40 = .ok (.aload_n 0, 1) := by decide +kernel
theorem dX0_writeCode_41 : decode cX0_writeCode 41 = .ok (.iload_n 1, 1) := by decide +kernel
theorem dX0_writeCode_42 : decode cX0_writeCode 42 = .ok (.invokevirtual 74, 3) := by decide +kernel
theorem dX0_writeCode_45 : decode cX0_writeCode 45 = .ok (.iinc 1 1, 3) := by decide +kernel
theorem dX0_writeCode_48 : decode cX0_writeCode 48 = .ok (.goto (-29), 3) := by decide +kernel
theorem dX0_writeCode_51 : decode cX0_writeCode 51 = .ok (.aload_n 0, 1) := by decide +kernel
theorem dX0_writeCode_52 : decode cX0_writeCode 52 = .ok (.getfield 15, 3) := by decide +kernel
theorem dX0_writeCode_55 : decode cX0_writeCode 55 = .ok (.aload_n 0, 1) := by decide +kernel
theorem dX0_writeCode_56 : decode cX0_writeCode 56 = .ok (.getfield 25, 3) := by decide +kernel
theorem dX0_writeCode_59 : decode cX0_writeCode 59 = .ok (.getfield 43, 3) := by decide +kernel
theorem dX0_writeCode_62 : decode cX0_writeCode 62 = .ok (.aload_n 0, 1) := by decide +kernel
theorem dX0_writeCode_63 : decode cX0_writeCode 63 = .ok (.getfield 63, 3) := by decide +kernel
theorem dX0_writeCode_66 : decode cX0_writeCode 66 = .ok (.iastore, 1) := by decide +kernel
theorem dX0_writeCode_67 : decode cX0_writeCode 67 = .ok (.aload_n 0, 1) := by decide +kernel
theorem dX0_writeCode_68 : decode cX0_writeCode 68 = .ok (.aload_n 0, 1) := by decide +kernel
theorem dX0_writeCode_69 : decode cX0_writeCode 69 = .ok (.getfield 63, 3) := by decide +kernel
theorem dX0_writeCode_72 : decode cX0_writeCode 72 = .ok (.aload_n 0, 1) := by decide +kernel
theorem dX0_writeCode_73 : decode cX0_writeCode 73 = .ok (.getfield 63, 3) := by decide +kernel
theorem dX0_writeCode_76 : decode cX0_writeCode 76 = .ok (.iconst 2, 1) := by decide +kernel
theorem dX0_writeCode_77 : decode cX0_writeCode 77 = .ok (.irem, 1) := by decide +kernel
theorem dX0_writeCode_78 : decode cX0_writeCode 78 = .ok (.iadd, 1) := by decide +kernel
theorem dX0_writeCode_79 : decode cX0_writeCode 79 = .ok (.putfield 78, 3) := by decide +kernel
theorem dX0_writeCode_82 : decode cX0_writeCode 82 = .ok (.return_, 1) := by decide +kernel
theorem dX0_writePool_0 : decode cX0_writePool 0 = .ok (.aload_n 0, 1) := by decide +kernel
theorem dX0_writePool_1 : decode cX0_writePool 1 = .ok (.getfield 63, 3) := by decide +kernel
theorem dX0_writePool_4 : decode cX0_writePool 4 = .ok (.aload_n 0, 1) := by decide +kernel
theorem dX0_writePool_5 : decode cX0_writePool 5 = .ok (.getfield 78, 3) := by decide +kernel
theorem dX0_writePool_8 : decode cX0_writePool 8 = .ok (.if_icmp .ge 8, 3) := by decide +kernel
theorem dX0_writePool_11 : decode cX0_writePool 11 = .ok (.aload_n 0, 1) := by decide +kernel
theorem dX0_writePool_12 : decode cX0_writePool 12 = .ok (.iconst 0, 1) := by decide +kernel
theorem dX0_writePool_13 : decode cX0_writePool 13 = .ok (.invokevirtual 81, 3) := by decide +kernel
theorem dX0_writePool_16 : decode cX0_writePool 16 = .ok (.iconst 0, 1) := by decide +kernel
theorem dX0_writePool_17 : decode cX0_writePool 17 = .ok (.istore_n 1, 1) := by decide +kernel
theorem dX0_writePool_18 : decode cX0_writePool 18 = .ok (.iload_n 1, 1) := by decide +kernel
theorem dX0_writePool_19 : decode cX0_writePool 19 = .ok (.aload_n 0, 1) := by decide +kernel
theorem dX0_writePool_20 : decode cX0_writePool 20 = .ok (.getfield 66, 3) := by decide +kernel
theorem dX0_writePool_23 : decode cX0_writePool 23 = .ok (.if_icmp .ge 35, 3) := by decide +kernel
theorem dX0_writePool_26 : decode cX0_writePool 26 = .ok (.aload_n 0, 1) := by decide +kernel
theorem dX0_writePool_27 : decode cX0_writePool 27 = .ok (.aload_n 0, 1) := by decide +kernel
theorem dX0_writePool_28 : decode cX0_writePool 28 = .ok (.getfield 22, 3) := by decide +kernel
theorem dX0_writePool_31 : decode cX0_writePool 31 = .ok (.iload_n 1, 1) := by decide +kernel
theorem dX0_writePool_32 : decode cX0_writePool 32 = .ok (.iaload, 1) := by decide +kernel
theorem dX0_writePool_33 : decode cX0_writePool 33 = .ok (.ldc 84, 2) := by decide +kernel
theorem dX0_writePool_35 : decode cX0_writePool 35 = .ok (.iand, 1) := by decide +kernel
theorem dX0_writePool_36 : decode cX0_writePool 36 = .ok (.invokevirtual 81, 3) := by decide +kernel
theorem dX0_writePool_39 : decode cX0_writePool 39 = .ok (.aload_n 0, 1) := by decide +kernel
theorem dX0_writePool_40 : decode cX0_writePool 40 = .ok (.aload_n 0, 1) := by decide +kernel
theorem dX0_writePool_41 : decode cX0_writePool 41 = .ok (.getfield 22, 3) := by decide +kernel
theorem dX0_writePool_44 : decode cX0_writePool 44 = .ok (.iload_n 1, 1) := by decide +kernel
theorem dX0_writePool_45 : decode cX0_writePool 45 = .ok (.iaload, 1) := by decide +kernel
theorem dX0_writePool_46 : decode cX0_writePool 46 = .ok (.bipush 16, 2) := by decide +kernel
theorem dX0_writePool_48 : decode cX0_writePool 48 = .ok (.iushr, 1) := by decide +kernel
theorem dX0_writePool_49 : decode cX0_writePool 49 = .ok (.invokevirtual 81, 3) := by decide +kernel
theorem dX0_writePool_52 : decode cX0_writePool 52 = .ok (.iinc 1 1, 3) := by decide +kernel
theorem dX0_writePool_55 : decode cX0_writePool 55 = .ok (.goto (-37), 3) := by decide +kernel
theorem dX0_writePool_58 : decode cX0_writePool 58 = .ok (.return_, 1) := by decide +kernel
theorem dX0_writeInstruction_0 : decode cX0_writeInstruction 0 = .ok (.aload_n 0, 1) := by decide +kernel
theorem dX0_writeInstruction_1 : decode cX0_writeInstruction 1 = .ok (.getfield 25, 3) := by decide +kernel
theorem dX0_writeInstruction_4 : decode cX0_writeInstruction 4 = .ok (.getfield 85, 3) := by decide +kernel
theorem dX0_writeInstruction_7 : decode cX0_writeInstruction 7 = .ok (.iload_n 1, 1) := by decide +kernel
theorem dX0_writeInstruction_8 : decode cX0_writeInstruction 8 = .ok (.iaload, 1) := by decide +kernel
theorem dX0_writeInstruction_9 : decode cX0_writeInstruction 9 = .ok (.istore_n 2, 1) := by decide +kernel
theorem dX0_writeInstruction_10 : decode cX0_writeInstruction 10 = .ok (.aload_n 0, 1) := by decide +kernel
theorem dX0_writeInstruction_11 : decode cX0_writeInstruction 11 = .ok (.getfield 25, 3) := by decide +kernel
theorem dX0_writeInstruction_14 : decode cX0_writeInstruction 14 = .ok (.getfield 88, 3) := by decide +kernel
theorem dX0_writeInstruction_17 : decode cX0_writeInstruction 17 = .ok (.iload_n 1, 1) := by decide +kernel
theorem dX0_writeInstruction_18 : decode cX0_writeInstruction 18 = .ok (.iaload, 1) := by decide +kernel
theorem dX0_writeInstruction_19 : decode cX0_writeInstruction 19 = .ok (.istore_n 3, 1) := by decide +kernel
theorem dX0_writeInstruction_20 : decode cX0_writeInstruction 20 = .ok (.aload_n 0, 1) := by decide +kernel
theorem dX0_writeInstruction_21 : decode cX0_writeInstruction 21 = .ok (.getfield 25, 3) := by decide +kernel
theorem dX0_writeInstruction_24 : decode cX0_writeInstruction 24 = .ok (.getfield 91, 3) := by decide +kernel
theorem dX0_writeInstruction_27 : decode cX0_writeInstruction 27 = .ok (.iload_n 1, 1) := by decide +kernel
theorem dX0_writeInstruction_28 : decode cX0_writeInstruction 28 = .ok (.iaload, 1) := by decide +kernel
theorem dX0_writeInstruction_29 : decode cX0_writeInstruction 29 = .ok (.istore 4, 2) := by decide +kernel
theorem dX0_writeInstruction_31 : decode cX0_writeInstruction 31 = .ok (.aload_n 0, 1) := by decide +kernel
theorem dX0_writeInstruction_32 : decode cX0_writeInstruction 32 = .ok (.getfield 25, 3) := by decide +kernel
theorem dX0_writeInstruction_35 : decode cX0_writeInstruction 35 = .ok (.getfield 56, 3) := by decide +kernel
theorem dX0_writeInstruction_38 : decode cX0_writeInstruction 38 = .ok (.iload_n 1, 1) := by decide +kernel
theorem dX0_writeInstruction_39 : decode cX0_writeInstruction 39 = .ok (.iaload, 1) := by decide +kernel
theorem dX0_writeInstruction_40 : decode cX0_writeInstruction 40 = .ok (.istore 5, 2) := by decide +kernel
theorem dX0_writeInstruction_42 : decode cX0_writeInstruction 42 = .ok (.aload_n 0, 1) := by decide +kernel
theorem dX0_writeInstruction_43 : decode cX0_writeInstruction 43 = .ok (.getfield 25, 3) := by decide +kernel
theorem dX0_writeInstruction_46 : decode cX0_writeInstruction 46 = .ok (.getfield 49, 3) := by decide +kernel
theorem dX0_writeInstruction_49 : decode cX0_writeInstruction 49 = .ok (.iload_n 1, 1) := by decide +kernel
theorem dX0_writeInstruction_50 : decode cX0_writeInstruction 50 = .ok (.iaload, 1) := by decide +kernel
theorem dX0_writeInstruction_51 : decode cX0_writeInstruction 51 = .ok (.tableswitch 190 0 7 #[45, 63, 83, 108, 131, 140, 167, 181], 45) := by decide +kernel
theorem dX0_writeInstruction_96 : decode cX0_writeInstruction 96 = .ok (.aload_n 0, 1) := by decide +kernel
theorem dX0_writeInstruction_97 : decode cX0_writeInstruction 97 = .ok (.iload 5, 2) := by decide +kernel
theorem dX0_writeInstruction_99 : decode cX0_writeInstruction 99 = .ok (.iload_n 2, 1) := by decide +kernel
theorem dX0_writeInstruction_100 : decode cX0_writeInstruction 100 = .ok (.invokestatic 94, 3) := by decide +kernel
theorem dX0_writeInstruction_103 : decode cX0_writeInstruction 103 = .ok (.invokevirtual 98, 3) := by decide +kernel
theorem dX0_writeInstruction_106 : decode cX0_writeInstruction 106 = .ok (.aload_n 0, 1) := by decide +kernel
theorem dX0_writeInstruction_107 : decode cX0_writeInstruction 107 = .ok (.iload_n 2, 1) := by decide +kernel
theorem dX0_writeInstruction_108 : decode cX0_writeInstruction 108 = .ok (.invokevirtual 101, 3) := by decide +kernel
theorem dX0_writeInstruction_111 : decode cX0_writeInstruction 111 = .ok (.goto 139, 3) := by decide +kernel
theorem dX0_writeInstruction_114 : decode cX0_writeInstruction 114 = .ok (.aload_n 0, 1) := by decide +kernel
theorem dX0_writeInstruction_115 : decode cX0_writeInstruction 115 = .ok (.aload_n 0, 1) := by decide +kernel
theorem dX0_writeInstruction_116 : decode cX0_writeInstruction 116 = .ok (.getfield 25, 3) := by decide +kernel
theorem dX0_writeInstruction_119 : decode cX0_writeInstruction 119 = .ok (.getfield 104, 3) := by decide +kernel
theorem dX0_writeInstruction_122 : decode cX0_writeInstruction 122 = .ok (.iload_n 1, 1) := by decide +kernel
theorem dX0_writeInstruction_123 : decode cX0_writeInstruction 123 = .ok (.iaload, 1) := by decide +kernel
theorem dX0_writeInstruction_124 : decode cX0_writeInstruction 124 = .ok (.iload_n 2, 1) := by decide +kernel
theorem dX0_writeInstruction_125 : decode cX0_writeInstruction 125 = .ok (.iload_n 3, 1) := by decide +kernel
theorem dX0_writeInstruction_126 : decode cX0_writeInstruction 126 = .ok (.iload 4, 2) := by decide +kernel
theorem dX0_writeInstruction_128 : decode cX0_writeInstruction 128 = .ok (.invokevirtual 107, 3) := by decide +kernel
theorem dX0_writeInstruction_131 : decode cX0_writeInstruction 131 = .ok (.goto 119, 3) := by decide +kernel
theorem dX0_writeInstruction_134 : decode cX0_writeInstruction 134 = .ok (.aload_n 0, 1) := by decide +kernel
theorem dX0_writeInstruction_135 : decode cX0_writeInstruction 135 = .ok (.iload_n 3, 1) := by decide +kernel
theorem dX0_writeInstruction_136 : decode cX0_writeInstruction 136 = .ok (.invokevirtual 111, 3) := by decide +kernel
theorem dX0_writeInstruction_139 : decode cX0_writeInstruction 139 = .ok (.aload_n 0, 1) := by decide +kernel
theorem dX0_writeInstruction_140 : decode cX0_writeInstruction 140 = .ok (.sipush 22616, 3) := by decide +kernel
theorem dX0_writeInstruction_143 : decode cX0_writeInstruction 143 = .ok (.iload_n 2, 1) := by decide +kernel
theorem dX0_writeInstruction_144 : decode cX0_writeInstruction 144 = .ok (.invokestatic 94, 3) := by decide +kernel
theorem dX0_writeInstruction_147 : decode cX0_writeInstruction 147 = .ok (.iadd, 1) := by decide +kernel
theorem dX0_writeInstruction_148 : decode cX0_writeInstruction 148 = .ok (.invokevirtual 81, 3) := by decide +kernel
theorem dX0_writeInstruction_151 : decode cX0_writeInstruction 151 = .ok (.aload_n 0, 1) := by decide +kernel
theorem dX0_writeInstruction_152 : decode cX0_writeInstruction 152 = .ok (.iload_n 2, 1) := by decide +kernel
theorem dX0_writeInstruction_153 : decode cX0_writeInstruction 153 = .ok (.invokevirtual 101, 3) := by decide +kernel
theorem dX0_writeInstruction_156 : decode cX0_writeInstruction 156 = .ok (.goto 94, 3) := by decide +kernel
theorem dX0_writeInstruction_159 : decode cX0_writeInstruction 159 = .ok (.aload_n 0, 1) := by decide +kernel
theorem dX0_writeInstruction_160 : decode cX0_writeInstruction 160 = .ok (.iload_n 3, 1) := by decide +kernel
theorem dX0_writeInstruction_161 : decode cX0_writeInstruction 161 = .ok (.invokevirtual 111, 3) := by decide +kernel
theorem dX0_writeInstruction_164 : decode cX0_writeInstruction 164 = .ok (.aload_n 0, 1) := by decide +kernel
theorem dX0_writeInstruction_165 : decode cX0_writeInstruction 165 = .ok (.sipush 20568, 3) := by decide +kernel
theorem dX0_writeInstruction_168 : decode cX0_writeInstruction 168 = .ok (.aload_n 0, 1) := by decide +kernel
theorem dX0_writeInstruction_169 : decode cX0_writeInstruction 169 = .ok (.iload 4, 2) := by decide +kernel
theorem dX0_writeInstruction_171 : decode cX0_writeInstruction 171 = .ok (.iconst 0, 1) := by decide +kernel
theorem dX0_writeInstruction_172 : decode cX0_writeInstruction 172 = .ok (.invokevirtual 114, 3) := by decide +kernel
theorem dX0_writeInstruction_175 : decode cX0_writeInstruction 175 = .ok (.iadd, 1) := by decide +kernel
theorem dX0_writeInstruction_176 : decode cX0_writeInstruction 176 = .ok (.invokevirtual 81, 3) := by decide +kernel
theorem dX0_writeInstruction_179 : decode cX0_writeInstruction 179 = .ok (.goto 71, 3) := by decide +kernel
theorem dX0_writeInstruction_182 : decode cX0_writeInstruction 182 = .ok (.aload_n 0, 1) := by decide +kernel
theorem dX0_writeInstruction_183 : decode cX0_writeInstruction 183 = .ok (.iload 5, 2) := by decide +kernel
theorem dX0_writeInstruction_185 : decode cX0_writeInstruction 185 = .ok (.invokevirtual 117, 3) := by decide +kernel
theorem dX0_writeInstruction_188 : decode cX0_writeInstruction 188 = .ok (.goto 62, 3) := by decide +kernel
theorem dX0_writeInstruction_191 : decode cX0_writeInstruction 191 = .ok (.aload_n 0, 1) := by decide +kernel
theorem dX0_writeInstruction_192 : decode cX0_writeInstruction 192 = .ok (.aload_n 0, 1) := by decide +kernel
theorem dX0_writeInstruction_193 : decode cX0_writeInstruction 193 = .ok (.getfield 25, 3) := by decide +kernel
theorem dX0_writeInstruction_196 : decode cX0_writeInstruction 196 = .ok (.getfield 104, 3) := by decide +kernel
theorem dX0_writeInstruction_199 : decode cX0_writeInstruction 199 = .ok (.iload_n 1, 1) := by decide +kernel
theorem dX0_writeInstruction_200 : decode cX0_writeInstruction 200 = .ok (.iaload, 1) := by decide +kernel
theorem dX0_writeInstruction_201 : decode cX0_writeInstruction 201 = .ok (.iload_n 3, 1) := by decide +kernel
theorem dX0_writeInstruction_202 : decode cX0_writeInstruction 202 = .ok (.iload 4, 2) := by decide +kernel
theorem dX0_writeInstruction_204 : decode cX0_writeInstruction 204 = .ok (.iload 5, 2) := by decide +kernel
theorem dX0_writeInstruction_206 : decode cX0_writeInstruction 206 = .ok (.aload_n 0, 1) := by decide +kernel
theorem dX0_writeInstruction_207 : decode cX0_writeInstruction 207 = .ok (.getfield 18, 3) := by decide +kernel
theorem dX0_writeInstruction_210 : decode cX0_writeInstruction 210 = .ok (.iload_n 1, 1) := by decide +kernel
theorem dX0_writeInstruction_211 : decode cX0_writeInstruction 211 = .ok (.baload, 1) := by decide +kernel
theorem dX0_writeInstruction_212 : decode cX0_writeInstruction 212 = .ok (.invokevirtual 120, 3) := by decide +kernel
theorem dX0_writeInstruction_215 : decode cX0_writeInstruction 215 = .ok (.goto 35, 3) := by decide +kernel
theorem dX0_writeInstruction_218 : decode cX0_writeInstruction 218 = .ok (.aload_n 0, 1) := by decide +kernel
theorem dX0_writeInstruction_219 : decode cX0_writeInstruction 219 = .ok (.iload_n 3, 1) := by decide +kernel
theorem dX0_writeInstruction_220 : decode cX0_writeInstruction 220 = .ok (.invokevirtual 124, 3) := by decide +kernel
theorem dX0_writeInstruction_223 : decode cX0_writeInstruction 223 = .ok (.aload_n 0, 1) := by decide +kernel
theorem dX0_writeInstruction_224 : decode cX0_writeInstruction 224 = .ok (.ldc 127, 2) := by decide +kernel
theorem dX0_writeInstruction_226 : decode cX0_writeInstruction 226 = .ok (.invokevirtual 81, 3) := by decide +kernel
theorem dX0_writeInstruction_229 : decode cX0_writeInstruction 229 = .ok (.goto 21, 3) := by decide +kernel
theorem dX0_writeInstruction_232 : decode cX0_writeInstruction 232 = .ok (.aload_n 0, 1) := by decide +kernel
theorem dX0_writeInstruction_233 : decode cX0_writeInstruction 233 = .ok (.ldc 128, 2) := by decide +kernel
theorem dX0_writeInstruction_235 : decode cX0_writeInstruction 235 = .ok (.invokevirtual 81, 3) := by decide +kernel
theorem dX0_writeInstruction_238 : decode cX0_writeInstruction 238 = .ok (.goto 12, 3) := by decide +kernel
theorem dX0_writeInstruction_241 : decode cX0_writeInstruction 241 = .ok (.aload_n 0, 1) := by decide +kernel
theorem dX0_writeInstruction_242 : decode cX0_writeInstruction 242 = .ok (.ldc 129, 2) := by decide +kernel
theorem dX0_writeInstruction_244 : decode cX0_writeInstruction 244 = .ok (.iload 5, 2) := by decide +kernel
theorem dX0_writeInstruction_246 : decode cX0_writeInstruction 246 = .ok (.iadd, 1) := by decide +kernel
theorem dX0_writeInstruction_247 : decode cX0_writeInstruction 247 = .ok (.invokevirtual 81, 3) := by decide +kernel
theorem dX0_writeInstruction_250 : decode cX0_writeInstruction 250 = .ok (.return_, 1) := by decide +kernel
theorem dX0_writeNumber_0 : decode cX0_writeNumber 0 = .ok (.iload_n 1, 1) := by decide +kernel
theorem dX0_writeNumber_1 : decode cX0_writeNumber 1 = .ok (.ifCond .lt 26, 3) := by decide +kernel
theorem dX0_writeNumber_4 : decode cX0_writeNumber 4 = .ok (.iload_n 1, 1) := by decide +kernel
theorem dX0_writeNumber_5 : decode cX0_writeNumber 5 = .ok (.sipush 255, 3) := by decide +kernel
theorem dX0_writeNumber_8 : decode cX0_writeNumber 8 = .ok (.if_icmp .gt 19, 3) := by decide +kernel
theorem dX0_writeNumber_11 : decode cX0_writeNumber 11 = .ok (.aload_n 0, 1) := by decide +kernel
theorem dX0_writeNumber_12 : decode cX0_writeNumber 12 = .ok (.sipush 8192, 3) := by decide +kernel
theorem dX0_writeNumber_15 : decode cX0_writeNumber 15 = .ok (.sipush 256, 3) := by decide +kernel
theorem dX0_writeNumber_18 : decode cX0_writeNumber 18 = .ok (.iload_n 2, 1) := by decide +kernel
theorem dX0_writeNumber_19 : decode cX0_writeNumber 19 = .ok (.imul, 1) := by decide +kernel
theorem dX0_writeNumber_20 : decode cX0_writeNumber 20 = .ok (.iadd, 1) := by decide +kernel
theorem dX0_writeNumber_21 : decode cX0_writeNumber 21 = .ok (.iload_n 1, 1) := by decide +kernel
theorem dX0_writeNumber_22 : decode cX0_writeNumber 22 = .ok (.iadd, 1) := by decide +kernel
theorem dX0_writeNumber_23 : decode cX0_writeNumber 23 = .ok (.invokevirtual 81, 3) := by decide +kernel
theorem dX0_writeNumber_26 : decode cX0_writeNumber 26 = .ok (.return_, 1) := by decide +kernel
theorem dX0_writeNumber_27 : decode cX0_writeNumber 27 = .ok (.iload_n 1, 1) := by decide +kernel
theorem dX0_writeNumber_28 : decode cX0_writeNumber 28 = .ok (.sipush (-256), 3) := by decide +kernel
theorem dX0_writeNumber_31 : decode cX0_writeNumber 31 = .ok (.if_icmp .lt 38, 3) := by decide +kernel
theorem dX0_writeNumber_34 : decode cX0_writeNumber 34 = .ok (.iload_n 1, 1) := by decide +kernel
theorem dX0_writeNumber_35 : decode cX0_writeNumber 35 = .ok (.iconst (-1), 1) := by decide +kernel
theorem dX0_writeNumber_36 : decode cX0_writeNumber 36 = .ok (.if_icmp .gt 33, 3) := by decide +kernel
theorem dX0_writeNumber_39 : decode cX0_writeNumber 39 = .ok (.aload_n 0, 1) := by decide +kernel
theorem dX0_writeNumber_40 : decode cX0_writeNumber 40 = .ok (.sipush 8192, 3) := by decide +kernel
theorem dX0_writeNumber_43 : decode cX0_writeNumber 43 = .ok (.sipush 256, 3) := by decide +kernel
theorem dX0_writeNumber_46 : decode cX0_writeNumber 46 = .ok (.iload_n 2, 1) := by decide +kernel
theorem dX0_writeNumber_47 : decode cX0_writeNumber 47 = .ok (.imul, 1) := by decide +kernel
theorem dX0_writeNumber_48 : decode cX0_writeNumber 48 = .ok (.iadd, 1) := by decide +kernel
theorem dX0_writeNumber_49 : decode cX0_writeNumber 49 = .ok (.iconst (-1), 1) := by decide +kernel
theorem dX0_writeNumber_50 : decode cX0_writeNumber 50 = .ok (.iload_n 1, 1) := by decide +kernel
theorem dX0_writeNumber_51 : decode cX0_writeNumber 51 = .ok (.isub, 1) := by decide +kernel
theorem dX0_writeNumber_52 : decode cX0_writeNumber 52 = .ok (.iadd, 1) := by decide +kernel
theorem dX0_writeNumber_53 : decode cX0_writeNumber 53 = .ok (.invokevirtual 81, 3) := by decide +kernel
theorem dX0_writeNumber_56 : decode cX0_writeNumber 56 = .ok (.aload_n 0, 1) := by decide +kernel
theorem dX0_writeNumber_57 : decode cX0_writeNumber 57 = .ok (.sipush 17344, 3) := by decide +kernel
theorem dX0_writeNumber_60 : decode cX0_writeNumber 60 = .ok (.bipush 9, 2) := by decide +kernel
theorem dX0_writeNumber_62 : decode cX0_writeNumber 62 = .ok (.iload_n 2, 1) := by decide +kernel
theorem dX0_writeNumber_63 : decode cX0_writeNumber 63 = .ok (.imul, 1) := by decide +kernel
theorem dX0_writeNumber_64 : decode cX0_writeNumber 64 = .ok (.iadd, 1) := by decide +kernel
theorem dX0_writeNumber_65 : decode cX0_writeNumber 65 = .ok (.invokevirtual 81, 3) := by decide +kernel
theorem dX0_writeNumber_68 : decode cX0_writeNumber 68 = .ok (.return_, 1) := by decide +kernel
theorem dX0_writeNumber_69 : decode cX0_writeNumber 69 = .ok (.iload_n 1, 1) := by decide +kernel
theorem dX0_writeNumber_70 : decode cX0_writeNumber 70 = .ok (.invokestatic 130, 3) := by decide +kernel
theorem dX0_writeNumber_73 : decode cX0_writeNumber 73 = .ok (.istore_n 3, 1) := by decide +kernel
theorem dX0_writeNumber_74 : decode cX0_writeNumber 74 = .ok (.iload_n 3, 1) := by decide +kernel
theorem dX0_writeNumber_75 : decode cX0_writeNumber 75 = .ok (.ifCond .ne 10, 3) := by decide +kernel
theorem dX0_writeNumber_78 : decode cX0_writeNumber 78 = .ok (.aload_n 0, 1) := by decide +kernel
theorem dX0_writeNumber_79 : decode cX0_writeNumber 79 = .ok (.iload_n 1, 1) := by decide +kernel
theorem dX0_writeNumber_80 : decode cX0_writeNumber 80 = .ok (.iload_n 2, 1) := by decide +kernel
theorem dX0_writeNumber_81 : decode cX0_writeNumber 81 = .ok (.invokevirtual 70, 3) := by decide +kernel
theorem dX0_writeNumber_84 : decode cX0_writeNumber 84 = .ok (.return_, 1) := by decide +kernel
theorem dX0_writeNumber_85 : decode cX0_writeNumber 85 = .ok (.aload_n 0, 1) := by decide +kernel
theorem dX0_writeNumber_86 : decode cX0_writeNumber 86 = .ok (.sipush 8192, 3) := by decide +kernel
theorem dX0_writeNumber_89 : decode cX0_writeNumber 89 = .ok (.sipush 256, 3) := by decide +kernel
theorem dX0_writeNumber_92 : decode cX0_writeNumber 92 = .ok (.iload_n 2, 1) := by decide +kernel
theorem dX0_writeNumber_93 : decode cX0_writeNumber 93 = .ok (.imul, 1) := by decide +kernel
theorem dX0_writeNumber_94 : decode cX0_writeNumber 94 = .ok (.iadd, 1) := by decide +kernel
theorem dX0_writeNumber_95 : decode cX0_writeNumber 95 = .ok (.iload_n 1, 1) := by decide +kernel
theorem dX0_writeNumber_96 : decode cX0_writeNumber 96 = .ok (.iload_n 3, 1) := by decide +kernel
theorem dX0_writeNumber_97 : decode cX0_writeNumber 97 = .ok (.iushr, 1) := by decide +kernel
theorem dX0_writeNumber_98 : decode cX0_writeNumber 98 = .ok (.iadd, 1) := by decide +kernel
theorem dX0_writeNumber_99 : decode cX0_writeNumber 99 = .ok (.invokevirtual 81, 3) := by decide +kernel
theorem dX0_writeNumber_102 : decode cX0_writeNumber 102 = .ok (.aload_n 0, 1) := by decide +kernel
theorem dX0_writeNumber_103 : decode cX0_writeNumber 103 = .ok (.bipush 64, 2) := by decide +kernel
theorem dX0_writeNumber_105 : decode cX0_writeNumber 105 = .ok (.iload_n 3, 1) := by decide +kernel
theorem dX0_writeNumber_106 : decode cX0_writeNumber 106 = .ok (.imul, 1) := by decide +kernel
theorem dX0_writeNumber_107 : decode cX0_writeNumber 107 = .ok (.bipush 9, 2) := by decide +kernel
theorem dX0_writeNumber_109 : decode cX0_writeNumber 109 = .ok (.iload_n 2, 1) := by decide +kernel
theorem dX0_writeNumber_110 : decode cX0_writeNumber 110 = .ok (.imul, 1) := by decide +kernel
theorem dX0_writeNumber_111 : decode cX0_writeNumber 111 = .ok (.iadd, 1) := by decide +kernel
theorem dX0_writeNumber_112 : decode cX0_writeNumber 112 = .ok (.invokevirtual 81, 3) := by decide +kernel
theorem dX0_writeNumber_115 : decode cX0_writeNumber 115 = .ok (.return_, 1) := by decide +kernel
theorem dX0_leastShift_0 : decode cX0_leastShift 0 = .ok (.iconst 1, 1) := by decide +kernel
theorem dX0_leastShift_1 : decode cX0_leastShift 1 = .ok (.istore_n 1, 1) := by decide +kernel
theorem dX0_leastShift_2 : decode cX0_leastShift 2 = .ok (.iload_n 1, 1) := by decide +kernel
theorem dX0_leastShift_3 : decode cX0_leastShift 3 = .ok (.bipush 24, 2) := by decide +kernel
theorem dX0_leastShift_5 : decode cX0_leastShift 5 = .ok (.if_icmp .gt 34, 3) := by decide +kernel
theorem dX0_leastShift_8 : decode cX0_leastShift 8 = .ok (.iload_n 0, 1) := by decide +kernel
theorem dX0_leastShift_9 : decode cX0_leastShift 9 = .ok (.iload_n 1, 1) := by decide +kernel
theorem dX0_leastShift_10 : decode cX0_leastShift 10 = .ok (.iushr, 1) := by decide +kernel
theorem dX0_leastShift_11 : decode cX0_leastShift 11 = .ok (.istore_n 2, 1) := by decide +kernel
theorem dX0_leastShift_12 : decode cX0_leastShift 12 = .ok (.iload_n 2, 1) := by decide +kernel
theorem dX0_leastShift_13 : decode cX0_leastShift 13 = .ok (.iconst 1, 1) := by decide +kernel
theorem dX0_leastShift_14 : decode cX0_leastShift 14 = .ok (.if_icmp .lt 19, 3) := by decide +kernel
theorem dX0_leastShift_17 : decode cX0_leastShift 17 = .ok (.iload_n 2, 1) := by decide +kernel
theorem dX0_leastShift_18 : decode cX0_leastShift 18 = .ok (.sipush 255, 3) := by decide +kernel
theorem dX0_leastShift_21 : decode cX0_leastShift 21 = .ok (.if_icmp .gt 12, 3) := by decide +kernel
theorem dX0_leastShift_24 : decode cX0_leastShift 24 = .ok (.iload_n 2, 1) := by decide +kernel
theorem dX0_leastShift_25 : decode cX0_leastShift 25 = .ok (.iload_n 1, 1) := by decide +kernel
theorem dX0_leastShift_26 : decode cX0_leastShift 26 = .ok (.ishl, 1) := by decide +kernel
theorem dX0_leastShift_27 : decode cX0_leastShift 27 = .ok (.iload_n 0, 1) := by decide +kernel
theorem dX0_leastShift_28 : decode cX0_leastShift 28 = .ok (.if_icmp .ne 5, 3) := by decide +kernel
theorem dX0_leastShift_31 : decode cX0_leastShift 31 = .ok (.iload_n 1, 1) := by decide +kernel
theorem dX0_leastShift_32 : decode cX0_leastShift 32 = .ok (.ireturn, 1) := by decide +kernel
theorem dX0_leastShift_33 : decode cX0_leastShift 33 = .ok (.iinc 1 1, 3) := by decide +kernel
theorem dX0_leastShift_36 : decode cX0_leastShift 36 = .ok (.goto (-34), 3) := by decide +kernel
theorem dX0_leastShift_39 : decode cX0_leastShift 39 = .ok (.iconst 0, 1) := by decide +kernel
theorem dX0_leastShift_40 : decode cX0_leastShift 40 = .ok (.ireturn, 1) := by decide +kernel
theorem dX0_writeLiteral_0 : decode cX0_writeLiteral 0 = .ok (.iconst 2, 1) := by decide +kernel
theorem dX0_writeLiteral_1 : decode cX0_writeLiteral 1 = .ok (.aload_n 0, 1) := by decide +kernel
theorem dX0_writeLiteral_2 : decode cX0_writeLiteral 2 = .ok (.getfield 78, 3) := by decide +kernel
theorem dX0_writeLiteral_5 : decode cX0_writeLiteral 5 = .ok (.imul, 1) := by decide +kernel
theorem dX0_writeLiteral_6 : decode cX0_writeLiteral 6 = .ok (.iconst 4, 1) := by decide +kernel
theorem dX0_writeLiteral_7 : decode cX0_writeLiteral 7 = .ok (.aload_n 0, 1) := by decide +kernel
theorem dX0_writeLiteral_8 : decode cX0_writeLiteral 8 = .ok (.iload_n 1, 1) := by decide +kernel
theorem dX0_writeLiteral_9 : decode cX0_writeLiteral 9 = .ok (.invokevirtual 133, 3) := by decide +kernel
theorem dX0_writeLiteral_12 : decode cX0_writeLiteral 12 = .ok (.imul, 1) := by decide +kernel
theorem dX0_writeLiteral_13 : decode cX0_writeLiteral 13 = .ok (.iadd, 1) := by decide +kernel
theorem dX0_writeLiteral_14 : decode cX0_writeLiteral 14 = .ok (.istore_n 3, 1) := by decide +kernel
theorem dX0_writeLiteral_15 : decode cX0_writeLiteral 15 = .ok (.iconst 2, 1) := by decide +kernel
theorem dX0_writeLiteral_16 : decode cX0_writeLiteral 16 = .ok (.aload_n 0, 1) := by decide +kernel
theorem dX0_writeLiteral_17 : decode cX0_writeLiteral 17 = .ok (.getfield 63, 3) := by decide +kernel
theorem dX0_writeLiteral_20 : decode cX0_writeLiteral 20 = .ok (.imul, 1) := by decide +kernel
theorem dX0_writeLiteral_21 : decode cX0_writeLiteral 21 = .ok (.iconst 4, 1) := by decide +kernel
theorem dX0_writeLiteral_22 : decode cX0_writeLiteral 22 = .ok (.iadd, 1) := by decide +kernel
theorem dX0_writeLiteral_23 : decode cX0_writeLiteral 23 = .ok (.istore 4, 2) := by decide +kernel
theorem dX0_writeLiteral_25 : decode cX0_writeLiteral 25 = .ok (.iload 4, 2) := by decide +kernel
theorem dX0_writeLiteral_27 : decode cX0_writeLiteral 27 = .ok (.iload 4, 2) := by decide +kernel
theorem dX0_writeLiteral_29 : decode cX0_writeLiteral 29 = .ok (.iconst 4, 1) := by decide +kernel
theorem dX0_writeLiteral_30 : decode cX0_writeLiteral 30 = .ok (.irem, 1) := by decide +kernel
theorem dX0_writeLiteral_31 : decode cX0_writeLiteral 31 = .ok (.isub, 1) := by decide +kernel
theorem dX0_writeLiteral_32 : decode cX0_writeLiteral 32 = .ok (.istore 4, 2) := by decide +kernel
theorem dX0_writeLiteral_34 : decode cX0_writeLiteral 34 = .ok (.aload_n 0, 1) := by decide +kernel
theorem dX0_writeLiteral_35 : decode cX0_writeLiteral 35 = .ok (.sipush 18432, 3) := by decide +kernel
theorem dX0_writeLiteral_38 : decode cX0_writeLiteral 38 = .ok (.sipush 256, 3) := by decide +kernel
theorem dX0_writeLiteral_41 : decode cX0_writeLiteral 41 = .ok (.iload_n 2, 1) := by decide +kernel
theorem dX0_writeLiteral_42 : decode cX0_writeLiteral 42 = .ok (.imul, 1) := by decide +kernel
theorem dX0_writeLiteral_43 : decode cX0_writeLiteral 43 = .ok (.iadd, 1) := by decide +kernel
theorem dX0_writeLiteral_44 : decode cX0_writeLiteral 44 = .ok (.iload_n 3, 1) := by decide +kernel
theorem dX0_writeLiteral_45 : decode cX0_writeLiteral 45 = .ok (.iload 4, 2) := by decide +kernel
theorem dX0_writeLiteral_47 : decode cX0_writeLiteral 47 = .ok (.isub, 1) := by decide +kernel
theorem dX0_writeLiteral_48 : decode cX0_writeLiteral 48 = .ok (.iconst 4, 1) := by decide +kernel
theorem dX0_writeLiteral_49 : decode cX0_writeLiteral 49 = .ok (.idiv, 1) := by decide +kernel
theorem dX0_writeLiteral_50 : decode cX0_writeLiteral 50 = .ok (.iadd, 1) := by decide +kernel
theorem dX0_writeLiteral_51 : decode cX0_writeLiteral 51 = .ok (.invokevirtual 81, 3) := by decide +kernel
theorem dX0_writeLiteral_54 : decode cX0_writeLiteral 54 = .ok (.return_, 1) := by decide +kernel
theorem dX0_literalIndex_0 : decode cX0_literalIndex 0 = .ok (.iconst 0, 1) := by decide +kernel
theorem dX0_literalIndex_1 : decode cX0_literalIndex 1 = .ok (.istore_n 2, 1) := by decide +kernel
theorem dX0_literalIndex_2 : decode cX0_literalIndex 2 = .ok (.iload_n 2, 1) := by decide +kernel
theorem dX0_literalIndex_3 : decode cX0_literalIndex 3 = .ok (.aload_n 0, 1) := by decide +kernel
theorem dX0_literalIndex_4 : decode cX0_literalIndex 4 = .ok (.getfield 66, 3) := by decide +kernel
theorem dX0_literalIndex_7 : decode cX0_literalIndex 7 = .ok (.if_icmp .ge 21, 3) := by decide +kernel
theorem dX0_literalIndex_10 : decode cX0_literalIndex 10 = .ok (.aload_n 0, 1) := by decide +kernel
theorem dX0_literalIndex_11 : decode cX0_literalIndex 11 = .ok (.getfield 22, 3) := by decide +kernel
theorem dX0_literalIndex_14 : decode cX0_literalIndex 14 = .ok (.iload_n 2, 1) := by decide +kernel
theorem dX0_literalIndex_15 : decode cX0_literalIndex 15 = .ok (.iaload, 1) := by decide +kernel
theorem dX0_literalIndex_16 : decode cX0_literalIndex 16 = .ok (.iload_n 1, 1) := by decide +kernel
theorem dX0_literalIndex_17 : decode cX0_literalIndex 17 = .ok (.if_icmp .ne 5, 3) := by decide +kernel
theorem dX0_literalIndex_20 : decode cX0_literalIndex 20 = .ok (.iload_n 2, 1) := by decide +kernel
theorem dX0_literalIndex_21 : decode cX0_literalIndex 21 = .ok (.ireturn, 1) := by decide +kernel
theorem dX0_literalIndex_22 : decode cX0_literalIndex 22 = .ok (.iinc 2 1, 3) := by decide +kernel
theorem dX0_literalIndex_25 : decode cX0_literalIndex 25 = .ok (.goto (-23), 3) := by decide +kernel
theorem dX0_literalIndex_28 : decode cX0_literalIndex 28 = .ok (.aload_n 0, 1) := by decide +kernel
theorem dX0_literalIndex_29 : decode cX0_literalIndex 29 = .ok (.getfield 66, 3) := by decide +kernel
theorem dX0_literalIndex_32 : decode cX0_literalIndex 32 = .ok (.bipush 49, 2) := by decide +kernel
theorem dX0_literalIndex_34 : decode cX0_literalIndex 34 = .ok (.if_icmp .ge 23, 3) := by decide +kernel
theorem dX0_literalIndex_37 : decode cX0_literalIndex 37 = .ok (.aload_n 0, 1) := by decide +kernel
theorem dX0_literalIndex_38 : decode cX0_literalIndex 38 = .ok (.getfield 22, 3) := by decide +kernel
theorem dX0_literalIndex_41 : decode cX0_literalIndex 41 = .ok (.aload_n 0, 1) := by decide +kernel
theorem dX0_literalIndex_42 : decode cX0_literalIndex 42 = .ok (.getfield 66, 3) := by decide +kernel
theorem dX0_literalIndex_45 : decode cX0_literalIndex 45 = .ok (.iload_n 1, 1) := by decide +kernel
theorem dX0_literalIndex_46 : decode cX0_literalIndex 46 = .ok (.iastore, 1) := by decide +kernel
theorem dX0_literalIndex_47 : decode cX0_literalIndex 47 = .ok (.aload_n 0, 1) := by decide +kernel
theorem dX0_literalIndex_48 : decode cX0_literalIndex 48 = .ok (.dup, 1) := by decide +kernel
theorem dX0_literalIndex_49 : decode cX0_literalIndex 49 = .ok (.getfield 66, 3) := by decide +kernel
theorem dX0_literalIndex_52 : decode cX0_literalIndex 52 = .ok (.iconst 1, 1) := by decide +kernel
theorem dX0_literalIndex_53 : decode cX0_literalIndex 53 = .ok (.iadd, 1) := by decide +kernel
theorem dX0_literalIndex_54 : decode cX0_literalIndex 54 = .ok (.putfield 66, 3) := by decide +kernel
theorem dX0_literalIndex_57 : decode cX0_literalIndex 57 = .ok (.aload_n 0, 1) := by decide +kernel
theorem dX0_literalIndex_58 : decode cX0_literalIndex 58 = .ok (.getfield 66, 3) := by decide +kernel
theorem dX0_literalIndex_61 : decode cX0_literalIndex 61 = .ok (.iconst 1, 1) := by decide +kernel
theorem dX0_literalIndex_62 : decode cX0_literalIndex 62 = .ok (.isub, 1) := by decide +kernel
theorem dX0_literalIndex_63 : decode cX0_literalIndex 63 = .ok (.ireturn, 1) := by decide +kernel
theorem dX0_writeCompute_0 : decode cX0_writeCompute 0 = .ok (.iload_n 1, 1) := by decide +kernel
theorem dX0_writeCompute_1 : decode cX0_writeCompute 1 = .ok (.iconst 2, 1) := by decide +kernel
theorem dX0_writeCompute_2 : decode cX0_writeCompute 2 = .ok (.if_icmp .ge 60, 3) := by decide +kernel
theorem dX0_writeCompute_5 : decode cX0_writeCompute 5 = .ok (.aload_n 0, 1) := by decide +kernel
theorem dX0_writeCompute_6 : decode cX0_writeCompute 6 = .ok (.iload_n 3, 1) := by decide +kernel
theorem dX0_writeCompute_7 : decode cX0_writeCompute 7 = .ok (.iconst 0, 1) := by decide +kernel
theorem dX0_writeCompute_8 : decode cX0_writeCompute 8 = .ok (.invokevirtual 114, 3) := by decide +kernel
theorem dX0_writeCompute_11 : decode cX0_writeCompute 11 = .ok (.istore 5, 2) := by decide +kernel
theorem dX0_writeCompute_13 : decode cX0_writeCompute 13 = .ok (.aload_n 0, 1) := by decide +kernel
theorem dX0_writeCompute_14 : decode cX0_writeCompute 14 = .ok (.iload 4, 2) := by decide +kernel
theorem dX0_writeCompute_16 : decode cX0_writeCompute 16 = .ok (.iconst 1, 1) := by decide +kernel
theorem dX0_writeCompute_17 : decode cX0_writeCompute 17 = .ok (.invokevirtual 114, 3) := by decide +kernel
theorem dX0_writeCompute_20 : decode cX0_writeCompute 20 = .ok (.istore 6, 2) := by decide +kernel
theorem dX0_writeCompute_22 : decode cX0_writeCompute 22 = .ok (.aload_n 0, 1) := by decide +kernel
theorem dX0_writeCompute_23 : decode cX0_writeCompute 23 = .ok (.iload_n 1, 1) := by decide +kernel
theorem dX0_writeCompute_24 : decode cX0_writeCompute 24 = .ok (.ifCond .ne 9, 3) := by decide +kernel
theorem dX0_writeCompute_27 : decode cX0_writeCompute 27 = .ok (.sipush 6144, 3) := by decide +kernel
theorem dX0_writeCompute_30 : decode cX0_writeCompute 30 = .ok (.goto 6, 3) := by decide +kernel
theorem dX0_writeCompute_33 : decode cX0_writeCompute 33 = .ok (.sipush 6656, 3) := by decide +kernel
theorem dX0_writeCompute_36 : decode cX0_writeCompute 36 = .ok (.bipush 64, 2) := by decide +kernel
theorem dX0_writeCompute_38 : decode cX0_writeCompute 38 = .ok (.iload 6, 2) := by decide +kernel
theorem dX0_writeCompute_40 : decode cX0_writeCompute 40 = .ok (.imul, 1) := by decide +kernel
theorem dX0_writeCompute_41 : decode cX0_writeCompute 41 = .ok (.iadd, 1) := by decide +kernel
theorem dX0_writeCompute_42 : decode cX0_writeCompute 42 = .ok (.bipush 8, 2) := by decide +kernel
theorem dX0_writeCompute_44 : decode cX0_writeCompute 44 = .ok (.iload 5, 2) := by decide +kernel
theorem dX0_writeCompute_46 : decode cX0_writeCompute 46 = .ok (.imul, 1) := by decide +kernel
theorem dX0_writeCompute_47 : decode cX0_writeCompute 47 = .ok (.iadd, 1) := by decide +kernel
theorem dX0_writeCompute_48 : decode cX0_writeCompute 48 = .ok (.iload_n 2, 1) := by decide +kernel
theorem dX0_writeCompute_49 : decode cX0_writeCompute 49 = .ok (.invokestatic 94, 3) := by decide +kernel
theorem dX0_writeCompute_52 : decode cX0_writeCompute 52 = .ok (.iadd, 1) := by decide +kernel
theorem dX0_writeCompute_53 : decode cX0_writeCompute 53 = .ok (.invokevirtual 81, 3) := by decide +kernel
theorem dX0_writeCompute_56 : decode cX0_writeCompute 56 = .ok (.aload_n 0, 1) := by decide +kernel
theorem dX0_writeCompute_57 : decode cX0_writeCompute 57 = .ok (.iload_n 2, 1) := by decide +kernel
theorem dX0_writeCompute_58 : decode cX0_writeCompute 58 = .ok (.invokevirtual 101, 3) := by decide +kernel
theorem dX0_writeCompute_61 : decode cX0_writeCompute 61 = .ok (.return_, 1) := by decide +kernel
theorem dX0_writeCompute_62 : decode cX0_writeCompute 62 = .ok (.aload_n 0, 1) := by decide +kernel
theorem dX0_writeCompute_63 : decode cX0_writeCompute 63 = .ok (.iload_n 3, 1) := by decide +kernel
theorem dX0_writeCompute_64 : decode cX0_writeCompute 64 = .ok (.invokevirtual 124, 3) := by decide +kernel
theorem dX0_writeCompute_67 : decode cX0_writeCompute 67 = .ok (.aload_n 0, 1) := by decide +kernel
theorem dX0_writeCompute_68 : decode cX0_writeCompute 68 = .ok (.iload 4, 2) := by decide +kernel
theorem dX0_writeCompute_70 : decode cX0_writeCompute 70 = .ok (.iconst 1, 1) := by decide +kernel
theorem dX0_writeCompute_71 : decode cX0_writeCompute 71 = .ok (.invokevirtual 114, 3) := by decide +kernel
theorem dX0_writeCompute_74 : decode cX0_writeCompute 74 = .ok (.istore 5, 2) := by decide +kernel
theorem dX0_writeCompute_76 : decode cX0_writeCompute 76 = .ok (.aload_n 0, 1) := by decide +kernel
theorem dX0_writeCompute_77 : decode cX0_writeCompute 77 = .ok (.getstatic 136, 3) := by decide +kernel
theorem dX0_writeCompute_80 : decode cX0_writeCompute 80 = .ok (.iload_n 1, 1) := by decide +kernel
theorem dX0_writeCompute_81 : decode cX0_writeCompute 81 = .ok (.iconst 2, 1) := by decide +kernel
theorem dX0_writeCompute_82 : decode cX0_writeCompute 82 = .ok (.isub, 1) := by decide +kernel
theorem dX0_writeCompute_83 : decode cX0_writeCompute 83 = .ok (.iaload, 1) := by decide +kernel
theorem dX0_writeCompute_84 : decode cX0_writeCompute 84 = .ok (.bipush 8, 2) := by decide +kernel
theorem dX0_writeCompute_86 : decode cX0_writeCompute 86 = .ok (.iload 5, 2) := by decide +kernel
theorem dX0_writeCompute_88 : decode cX0_writeCompute 88 = .ok (.imul, 1) := by decide +kernel
theorem dX0_writeCompute_89 : decode cX0_writeCompute 89 = .ok (.iadd, 1) := by decide +kernel
theorem dX0_writeCompute_90 : decode cX0_writeCompute 90 = .ok (.invokevirtual 81, 3) := by decide +kernel
theorem dX0_writeCompute_93 : decode cX0_writeCompute 93 = .ok (.iload_n 2, 1) := by decide +kernel
theorem dX0_writeCompute_94 : decode cX0_writeCompute 94 = .ok (.invokestatic 139, 3) := by decide +kernel
theorem dX0_writeCompute_97 : decode cX0_writeCompute 97 = .ok (.ifCond .eq 14, 3) := by decide +kernel
theorem dX0_writeCompute_100 : decode cX0_writeCompute 100 = .ok (.aload_n 0, 1) := by decide +kernel
theorem dX0_writeCompute_101 : decode cX0_writeCompute 101 = .ok (.iload_n 2, 1) := by decide +kernel
theorem dX0_writeCompute_102 : decode cX0_writeCompute 102 = .ok (.invokestatic 142, 3) := by decide +kernel
theorem dX0_writeCompute_105 : decode cX0_writeCompute 105 = .ok (.invokevirtual 81, 3) := by decide +kernel
theorem dX0_writeCompute_108 : decode cX0_writeCompute 108 = .ok (.goto 8, 3) := by decide +kernel
theorem dX0_writeCompute_111 : decode cX0_writeCompute 111 = .ok (.aload_n 0, 1) := by decide +kernel
theorem dX0_writeCompute_112 : decode cX0_writeCompute 112 = .ok (.iload_n 2, 1) := by decide +kernel
theorem dX0_writeCompute_113 : decode cX0_writeCompute 113 = .ok (.invokevirtual 101, 3) := by decide +kernel
theorem dX0_writeCompute_116 : decode cX0_writeCompute 116 = .ok (.return_, 1) := by decide +kernel
theorem dX0_writeWordChoice_0 : decode cX0_writeWordChoice 0 = .ok (.aload_n 0, 1) := by decide +kernel
theorem dX0_writeWordChoice_1 : decode cX0_writeWordChoice 1 = .ok (.iload_n 1, 1) := by decide +kernel
theorem dX0_writeWordChoice_2 : decode cX0_writeWordChoice 2 = .ok (.iconst 0, 1) := by decide +kernel
theorem dX0_writeWordChoice_3 : decode cX0_writeWordChoice 3 = .ok (.invokevirtual 114, 3) := by decide +kernel
theorem dX0_writeWordChoice_6 : decode cX0_writeWordChoice 6 = .ok (.istore_n 2, 1) := by decide +kernel
theorem dX0_writeWordChoice_7 : decode cX0_writeWordChoice 7 = .ok (.aload_n 0, 1) := by decide +kernel
theorem dX0_writeWordChoice_8 : decode cX0_writeWordChoice 8 = .ok (.sipush 8455, 3) := by decide +kernel
theorem dX0_writeWordChoice_11 : decode cX0_writeWordChoice 11 = .ok (.invokevirtual 81, 3) := by decide +kernel
theorem dX0_writeWordChoice_14 : decode cX0_writeWordChoice 14 = .ok (.aload_n 0, 1) := by decide +kernel
theorem dX0_writeWordChoice_15 : decode cX0_writeWordChoice 15 = .ok (.sipush 16385, 3) := by decide +kernel
theorem dX0_writeWordChoice_18 : decode cX0_writeWordChoice 18 = .ok (.bipush 8, 2) := by decide +kernel
theorem dX0_writeWordChoice_20 : decode cX0_writeWordChoice 20 = .ok (.iload_n 2, 1) := by decide +kernel
theorem dX0_writeWordChoice_21 : decode cX0_writeWordChoice 21 = .ok (.imul, 1) := by decide +kernel
theorem dX0_writeWordChoice_22 : decode cX0_writeWordChoice 22 = .ok (.iadd, 1) := by decide +kernel
theorem dX0_writeWordChoice_23 : decode cX0_writeWordChoice 23 = .ok (.invokevirtual 81, 3) := by decide +kernel
theorem dX0_writeWordChoice_26 : decode cX0_writeWordChoice 26 = .ok (.aload_n 0, 1) := by decide +kernel
theorem dX0_writeWordChoice_27 : decode cX0_writeWordChoice 27 = .ok (.sipush 137, 3) := by decide +kernel
theorem dX0_writeWordChoice_30 : decode cX0_writeWordChoice 30 = .ok (.invokevirtual 81, 3) := by decide +kernel
theorem dX0_writeWordChoice_33 : decode cX0_writeWordChoice 33 = .ok (.return_, 1) := by decide +kernel
theorem dX0_writeBranch_0 : decode cX0_writeBranch 0 = .ok (.aload_n 0, 1) := by decide +kernel
theorem dX0_writeBranch_1 : decode cX0_writeBranch 1 = .ok (.iload_n 2, 1) := by decide +kernel
theorem dX0_writeBranch_2 : decode cX0_writeBranch 2 = .ok (.iconst 0, 1) := by decide +kernel
theorem dX0_writeBranch_3 : decode cX0_writeBranch 3 = .ok (.invokevirtual 114, 3) := by decide +kernel
theorem dX0_writeBranch_6 : decode cX0_writeBranch 6 = .ok (.istore 6, 2) := by decide +kernel
theorem dX0_writeBranch_8 : decode cX0_writeBranch 8 = .ok (.aload_n 0, 1) := by decide +kernel
theorem dX0_writeBranch_9 : decode cX0_writeBranch 9 = .ok (.iload_n 3, 1) := by decide +kernel
theorem dX0_writeBranch_10 : decode cX0_writeBranch 10 = .ok (.iconst 1, 1) := by decide +kernel
theorem dX0_writeBranch_11 : decode cX0_writeBranch 11 = .ok (.invokevirtual 114, 3) := by decide +kernel
theorem dX0_writeBranch_14 : decode cX0_writeBranch 14 = .ok (.istore 7, 2) := by decide +kernel
theorem dX0_writeBranch_16 : decode cX0_writeBranch 16 = .ok (.aload_n 0, 1) := by decide +kernel
theorem dX0_writeBranch_17 : decode cX0_writeBranch 17 = .ok (.sipush 17024, 3) := by decide +kernel
theorem dX0_writeBranch_20 : decode cX0_writeBranch 20 = .ok (.bipush 8, 2) := by decide +kernel
theorem dX0_writeBranch_22 : decode cX0_writeBranch 22 = .ok (.iload 7, 2) := by decide +kernel
theorem dX0_writeBranch_24 : decode cX0_writeBranch 24 = .ok (.imul, 1) := by decide +kernel
theorem dX0_writeBranch_25 : decode cX0_writeBranch 25 = .ok (.iadd, 1) := by decide +kernel
theorem dX0_writeBranch_26 : decode cX0_writeBranch 26 = .ok (.iload 6, 2) := by decide +kernel
theorem dX0_writeBranch_28 : decode cX0_writeBranch 28 = .ok (.iadd, 1) := by decide +kernel
theorem dX0_writeBranch_29 : decode cX0_writeBranch 29 = .ok (.invokevirtual 81, 3) := by decide +kernel
theorem dX0_writeBranch_32 : decode cX0_writeBranch 32 = .ok (.iload 5, 2) := by decide +kernel
theorem dX0_writeBranch_34 : decode cX0_writeBranch 34 = .ok (.ifCond .eq 26, 3) := by decide +kernel
theorem dX0_writeBranch_37 : decode cX0_writeBranch 37 = .ok (.aload_n 0, 1) := by decide +kernel
theorem dX0_writeBranch_38 : decode cX0_writeBranch 38 = .ok (.ldc 145, 2) := by decide +kernel
theorem dX0_writeBranch_40 : decode cX0_writeBranch 40 = .ok (.sipush 256, 3) := by decide +kernel
theorem dX0_writeBranch_43 : decode cX0_writeBranch 43 = .ok (.iload_n 1, 1) := by decide +kernel
theorem dX0_writeBranch_44 : decode cX0_writeBranch 44 = .ok (.iconst 1, 1) := by decide +kernel
theorem dX0_writeBranch_45 : decode cX0_writeBranch 45 = .ok (.ixor, 1) := by decide +kernel
theorem dX0_writeBranch_46 : decode cX0_writeBranch 46 = .ok (.imul, 1) := by decide +kernel
theorem dX0_writeBranch_47 : decode cX0_writeBranch 47 = .ok (.iadd, 1) := by decide +kernel
theorem dX0_writeBranch_48 : decode cX0_writeBranch 48 = .ok (.invokevirtual 81, 3) := by decide +kernel
theorem dX0_writeBranch_51 : decode cX0_writeBranch 51 = .ok (.aload_n 0, 1) := by decide +kernel
theorem dX0_writeBranch_52 : decode cX0_writeBranch 52 = .ok (.iload 4, 2) := by decide +kernel
theorem dX0_writeBranch_54 : decode cX0_writeBranch 54 = .ok (.invokevirtual 117, 3) := by decide +kernel
theorem dX0_writeBranch_57 : decode cX0_writeBranch 57 = .ok (.goto 30, 3) := by decide +kernel
theorem dX0_writeBranch_60 : decode cX0_writeBranch 60 = .ok (.aload_n 0, 1) := by decide +kernel
theorem dX0_writeBranch_61 : decode cX0_writeBranch 61 = .ok (.ldc 145, 2) := by decide +kernel
theorem dX0_writeBranch_63 : decode cX0_writeBranch 63 = .ok (.sipush 256, 3) := by decide +kernel
theorem dX0_writeBranch_66 : decode cX0_writeBranch 66 = .ok (.iload_n 1, 1) := by decide +kernel
theorem dX0_writeBranch_67 : decode cX0_writeBranch 67 = .ok (.imul, 1) := by decide +kernel
theorem dX0_writeBranch_68 : decode cX0_writeBranch 68 = .ok (.iadd, 1) := by decide +kernel
theorem dX0_writeBranch_69 : decode cX0_writeBranch 69 = .ok (.aload_n 0, 1) := by decide +kernel
theorem dX0_writeBranch_70 : decode cX0_writeBranch 70 = .ok (.aload_n 0, 1) := by decide +kernel
theorem dX0_writeBranch_71 : decode cX0_writeBranch 71 = .ok (.getfield 63, 3) := by decide +kernel
theorem dX0_writeBranch_74 : decode cX0_writeBranch 74 = .ok (.iload 4, 2) := by decide +kernel
theorem dX0_writeBranch_76 : decode cX0_writeBranch 76 = .ok (.invokevirtual 59, 3) := by decide +kernel
theorem dX0_writeBranch_79 : decode cX0_writeBranch 79 = .ok (.sipush 255, 3) := by decide +kernel
theorem dX0_writeBranch_82 : decode cX0_writeBranch 82 = .ok (.iand, 1) := by decide +kernel
theorem dX0_writeBranch_83 : decode cX0_writeBranch 83 = .ok (.iadd, 1) := by decide +kernel
theorem dX0_writeBranch_84 : decode cX0_writeBranch 84 = .ok (.invokevirtual 81, 3) := by decide +kernel
theorem dX0_writeBranch_87 : decode cX0_writeBranch 87 = .ok (.return_, 1) := by decide +kernel
theorem dX0_writeJump_0 : decode cX0_writeJump 0 = .ok (.aload_n 0, 1) := by decide +kernel
theorem dX0_writeJump_1 : decode cX0_writeJump 1 = .ok (.ldc 146, 2) := by decide +kernel
theorem dX0_writeJump_3 : decode cX0_writeJump 3 = .ok (.aload_n 0, 1) := by decide +kernel
theorem dX0_writeJump_4 : decode cX0_writeJump 4 = .ok (.aload_n 0, 1) := by decide +kernel
theorem dX0_writeJump_5 : decode cX0_writeJump 5 = .ok (.getfield 63, 3) := by decide +kernel
theorem dX0_writeJump_8 : decode cX0_writeJump 8 = .ok (.iload_n 1, 1) := by decide +kernel
theorem dX0_writeJump_9 : decode cX0_writeJump 9 = .ok (.invokevirtual 59, 3) := by decide +kernel
theorem dX0_writeJump_12 : decode cX0_writeJump 12 = .ok (.sipush 2047, 3) := by decide +kernel
theorem dX0_writeJump_15 : decode cX0_writeJump 15 = .ok (.iand, 1) := by decide +kernel
theorem dX0_writeJump_16 : decode cX0_writeJump 16 = .ok (.iadd, 1) := by decide +kernel
theorem dX0_writeJump_17 : decode cX0_writeJump 17 = .ok (.invokevirtual 81, 3) := by decide +kernel
theorem dX0_writeJump_20 : decode cX0_writeJump 20 = .ok (.return_, 1) := by decide +kernel
theorem dX0_fetch_0 : decode cX0_fetch 0 = .ok (.iload_n 1, 1) := by decide +kernel
theorem dX0_fetch_1 : decode cX0_fetch 1 = .ok (.invokestatic 139, 3) := by decide +kernel
theorem dX0_fetch_4 : decode cX0_fetch 4 = .ok (.ifCond .eq 8, 3) := by decide +kernel
theorem dX0_fetch_7 : decode cX0_fetch 7 = .ok (.iload_n 1, 1) := by decide +kernel
theorem dX0_fetch_8 : decode cX0_fetch 8 = .ok (.invokestatic 142, 3) := by decide +kernel
theorem dX0_fetch_11 : decode cX0_fetch 11 = .ok (.ireturn, 1) := by decide +kernel
theorem dX0_fetch_12 : decode cX0_fetch 12 = .ok (.aload_n 0, 1) := by decide +kernel
theorem dX0_fetch_13 : decode cX0_fetch 13 = .ok (.ldc 147, 2) := by decide +kernel
theorem dX0_fetch_15 : decode cX0_fetch 15 = .ok (.sipush 256, 3) := by decide +kernel
theorem dX0_fetch_18 : decode cX0_fetch 18 = .ok (.iload_n 2, 1) := by decide +kernel
theorem dX0_fetch_19 : decode cX0_fetch 19 = .ok (.imul, 1) := by decide +kernel
theorem dX0_fetch_20 : decode cX0_fetch 20 = .ok (.iadd, 1) := by decide +kernel
theorem dX0_fetch_21 : decode cX0_fetch 21 = .ok (.iload_n 1, 1) := by decide +kernel
theorem dX0_fetch_22 : decode cX0_fetch 22 = .ok (.invokestatic 148, 3) := by decide +kernel
theorem dX0_fetch_25 : decode cX0_fetch 25 = .ok (.iadd, 1) := by decide +kernel
theorem dX0_fetch_26 : decode cX0_fetch 26 = .ok (.invokevirtual 81, 3) := by decide +kernel
theorem dX0_fetch_29 : decode cX0_fetch 29 = .ok (.iload_n 2, 1) := by decide +kernel
theorem dX0_fetch_30 : decode cX0_fetch 30 = .ok (.ireturn, 1) := by decide +kernel
theorem dX0_copyTo0_0 : decode cX0_copyTo0 0 = .ok (.aload_n 0, 1) := by decide +kernel
theorem dX0_copyTo0_1 : decode cX0_copyTo0 1 = .ok (.iload_n 1, 1) := by decide +kernel
theorem dX0_copyTo0_2 : decode cX0_copyTo0 2 = .ok (.invokestatic 139, 3) := by decide +kernel
theorem dX0_copyTo0_5 : decode cX0_copyTo0 5 = .ok (.ifCond .eq 13, 3) := by decide +kernel
theorem dX0_copyTo0_8 : decode cX0_copyTo0 8 = .ok (.bipush 8, 2) := by decide +kernel
theorem dX0_copyTo0_10 : decode cX0_copyTo0 10 = .ok (.iload_n 1, 1) := by decide +kernel
theorem dX0_copyTo0_11 : decode cX0_copyTo0 11 = .ok (.invokestatic 142, 3) := by decide +kernel
theorem dX0_copyTo0_14 : decode cX0_copyTo0 14 = .ok (.imul, 1) := by decide +kernel
theorem dX0_copyTo0_15 : decode cX0_copyTo0 15 = .ok (.goto 10, 3) := by decide +kernel
theorem dX0_copyTo0_18 : decode cX0_copyTo0 18 = .ok (.ldc 147, 2) := by decide +kernel
theorem dX0_copyTo0_20 : decode cX0_copyTo0 20 = .ok (.iload_n 1, 1) := by decide +kernel
theorem dX0_copyTo0_21 : decode cX0_copyTo0 21 = .ok (.invokestatic 148, 3) := by decide +kernel
theorem dX0_copyTo0_24 : decode cX0_copyTo0 24 = .ok (.iadd, 1) := by decide +kernel
theorem dX0_copyTo0_25 : decode cX0_copyTo0 25 = .ok (.invokevirtual 81, 3) := by decide +kernel
theorem dX0_copyTo0_28 : decode cX0_copyTo0 28 = .ok (.return_, 1) := by decide +kernel
theorem dX0_keep_0 : decode cX0_keep 0 = .ok (.iload_n 1, 1) := by decide +kernel
theorem dX0_keep_1 : decode cX0_keep 1 = .ok (.invokestatic 139, 3) := by decide +kernel
theorem dX0_keep_4 : decode cX0_keep 4 = .ok (.ifCond .ne 14, 3) := by decide +kernel
theorem dX0_keep_7 : decode cX0_keep 7 = .ok (.aload_n 0, 1) := by decide +kernel
theorem dX0_keep_8 : decode cX0_keep 8 = .ok (.ldc 151, 2) := by decide +kernel
theorem dX0_keep_10 : decode cX0_keep 10 = .ok (.iload_n 1, 1) := by decide +kernel
theorem dX0_keep_11 : decode cX0_keep 11 = .ok (.invokestatic 148, 3) := by decide +kernel
theorem dX0_keep_14 : decode cX0_keep 14 = .ok (.iadd, 1) := by decide +kernel
theorem dX0_keep_15 : decode cX0_keep 15 = .ok (.invokevirtual 81, 3) := by decide +kernel
theorem dX0_keep_18 : decode cX0_keep 18 = .ok (.return_, 1) := by decide +kernel
theorem dX0_targetOf_0 : decode cX0_targetOf 0 = .ok (.iload_n 0, 1) := by decide +kernel
theorem dX0_targetOf_1 : decode cX0_targetOf 1 = .ok (.invokestatic 139, 3) := by decide +kernel
theorem dX0_targetOf_4 : decode cX0_targetOf 4 = .ok (.ifCond .eq 10, 3) := by decide +kernel
theorem dX0_targetOf_7 : decode cX0_targetOf 7 = .ok (.iload_n 0, 1) := by decide +kernel
theorem dX0_targetOf_8 : decode cX0_targetOf 8 = .ok (.invokestatic 142, 3) := by decide +kernel
theorem dX0_targetOf_11 : decode cX0_targetOf 11 = .ok (.goto 4, 3) := by decide +kernel
theorem dX0_targetOf_14 : decode cX0_targetOf 14 = .ok (.iconst 0, 1) := by decide +kernel
theorem dX0_targetOf_15 : decode cX0_targetOf 15 = .ok (.ireturn, 1) := by decide +kernel
theorem dX0_hasRegister_0 : decode cX0_hasRegister 0 = .ok (.iload_n 0, 1) := by decide +kernel
theorem dX0_hasRegister_1 : decode cX0_hasRegister 1 = .ok (.iconst 4, 1) := by decide +kernel
theorem dX0_hasRegister_2 : decode cX0_hasRegister 2 = .ok (.if_icmp .ge 7, 3) := by decide +kernel
theorem dX0_hasRegister_5 : decode cX0_hasRegister 5 = .ok (.iconst 1, 1) := by decide +kernel
theorem dX0_hasRegister_6 : decode cX0_hasRegister 6 = .ok (.goto 4, 3) := by decide +kernel
theorem dX0_hasRegister_9 : decode cX0_hasRegister 9 = .ok (.iconst 0, 1) := by decide +kernel
theorem dX0_hasRegister_10 : decode cX0_hasRegister 10 = .ok (.ireturn, 1) := by decide +kernel
theorem dX0_registerOf_0 : decode cX0_registerOf 0 = .ok (.iconst 4, 1) := by decide +kernel
theorem dX0_registerOf_1 : decode cX0_registerOf 1 = .ok (.iload_n 0, 1) := by decide +kernel
theorem dX0_registerOf_2 : decode cX0_registerOf 2 = .ok (.iadd, 1) := by decide +kernel
theorem dX0_registerOf_3 : decode cX0_registerOf 3 = .ok (.ireturn, 1) := by decide +kernel
theorem dX0_slotOf_0 : decode cX0_slotOf 0 = .ok (.iload_n 0, 1) := by decide +kernel
theorem dX0_slotOf_1 : decode cX0_slotOf 1 = .ok (.iconst 4, 1) := by decide +kernel
theorem dX0_slotOf_2 : decode cX0_slotOf 2 = .ok (.isub, 1) := by decide +kernel
theorem dX0_slotOf_3 : decode cX0_slotOf 3 = .ok (.ireturn, 1) := by decide +kernel
theorem dX0_put_0 : decode cX0_put 0 = .ok (.aload_n 0, 1) := by decide +kernel
theorem dX0_put_1 : decode cX0_put 1 = .ok (.getfield 63, 3) := by decide +kernel
theorem dX0_put_4 : decode cX0_put 4 = .ok (.sipush 388, 3) := by decide +kernel
theorem dX0_put_7 : decode cX0_put 7 = .ok (.if_icmp .ge 23, 3) := by decide +kernel
theorem dX0_put_10 : decode cX0_put 10 = .ok (.aload_n 0, 1) := by decide +kernel
theorem dX0_put_11 : decode cX0_put 11 = .ok (.getfield 11, 3) := by decide +kernel
theorem dX0_put_14 : decode cX0_put 14 = .ok (.aload_n 0, 1) := by decide +kernel
theorem dX0_put_15 : decode cX0_put 15 = .ok (.getfield 63, 3) := by decide +kernel
theorem dX0_put_18 : decode cX0_put 18 = .ok (.iload_n 1, 1) := by decide +kernel
theorem dX0_put_19 : decode cX0_put 19 = .ok (.iastore, 1) := by decide +kernel
theorem dX0_put_20 : decode cX0_put 20 = .ok (.aload_n 0, 1) := by decide +kernel
theorem dX0_put_21 : decode cX0_put 21 = .ok (.dup, 1) := by decide +kernel
theorem dX0_put_22 : decode cX0_put 22 = .ok (.getfield 63, 3) := by decide +kernel
theorem dX0_put_25 : decode cX0_put 25 = .ok (.iconst 1, 1) := by decide +kernel
theorem dX0_put_26 : decode cX0_put 26 = .ok (.iadd, 1) := by decide +kernel
theorem dX0_put_27 : decode cX0_put 27 = .ok (.putfield 63, 3) := by decide +kernel
theorem dX0_put_30 : decode cX0_put 30 = .ok (.return_, 1) := by decide +kernel
