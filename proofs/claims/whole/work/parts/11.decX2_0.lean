theorem dX2_init_0 : decode cX2_init 0 = .ok (.aload_n 0, 1) := by decide +kernel
theorem dX2_init_1 : decode cX2_init 1 = .ok (.invokespecial 3, 3) := by decide +kernel
theorem dX2_init_4 : decode cX2_init 4 = .ok (.aload_n 0, 1) := by decide +kernel
theorem dX2_init_5 : decode cX2_init 5 = .ok (.bipush 48, 2) := by decide +kernel
theorem dX2_init_7 : decode cX2_init 7 = .ok (.newarray .int, 2) := by decide +kernel
theorem dX2_init_9 : decode cX2_init 9 = .ok (.putfield 9, 3) := by decide +kernel
theorem dX2_init_12 : decode cX2_init 12 = .ok (.aload_n 0, 1) := by decide +kernel
theorem dX2_init_13 : decode cX2_init 13 = .ok (.bipush 48, 2) := by decide +kernel
theorem dX2_init_15 : decode cX2_init 15 = .ok (.newarray .int, 2) := by decide +kernel
theorem dX2_init_17 : decode cX2_init 17 = .ok (.putfield 15, 3) := by decide +kernel
theorem dX2_init_20 : decode cX2_init 20 = .ok (.aload_n 0, 1) := by decide +kernel
theorem dX2_init_21 : decode cX2_init 21 = .ok (.bipush 48, 2) := by decide +kernel
theorem dX2_init_23 : decode cX2_init 23 = .ok (.newarray .int, 2) := by decide +kernel
theorem dX2_init_25 : decode cX2_init 25 = .ok (.putfield 18, 3) := by decide +kernel
theorem dX2_init_28 : decode cX2_init 28 = .ok (.aload_n 0, 1) := by decide +kernel
theorem dX2_init_29 : decode cX2_init 29 = .ok (.bipush 48, 2) := by decide +kernel
theorem dX2_init_31 : decode cX2_init 31 = .ok (.newarray .int, 2) := by decide +kernel
theorem dX2_init_33 : decode cX2_init 33 = .ok (.putfield 21, 3) := by decide +kernel
theorem dX2_init_36 : decode cX2_init 36 = .ok (.aload_n 0, 1) := by decide +kernel
theorem dX2_init_37 : decode cX2_init 37 = .ok (.bipush 48, 2) := by decide +kernel
theorem dX2_init_39 : decode cX2_init 39 = .ok (.newarray .int, 2) := by decide +kernel
theorem dX2_init_41 : decode cX2_init 41 = .ok (.putfield 24, 3) := by decide +kernel
theorem dX2_init_44 : decode cX2_init 44 = .ok (.aload_n 0, 1) := by decide +kernel
theorem dX2_init_45 : decode cX2_init 45 = .ok (.bipush 48, 2) := by decide +kernel
theorem dX2_init_47 : decode cX2_init 47 = .ok (.newarray .int, 2) := by decide +kernel
theorem dX2_init_49 : decode cX2_init 49 = .ok (.putfield 27, 3) := by decide +kernel
theorem dX2_init_52 : decode cX2_init 52 = .ok (.return_, 1) := by decide +kernel
theorem dX2_empty_0 : decode cX2_empty 0 = .ok (.aload_n 0, 1) := by decide +kernel
theorem dX2_empty_1 : decode cX2_empty 1 = .ok (.iconst 0, 1) := by decide +kernel
theorem dX2_empty_2 : decode cX2_empty 2 = .ok (.putfield 30, 3) := by decide +kernel
theorem dX2_empty_5 : decode cX2_empty 5 = .ok (.return_, 1) := by decide +kernel
theorem dX2_add_0 : decode cX2_add 0 = .ok (.aload_n 0, 1) := by decide +kernel
theorem dX2_add_1 : decode cX2_add 1 = .ok (.getfield 30, 3) := by decide +kernel
theorem dX2_add_4 : decode cX2_add 4 = .ok (.istore 7, 2) := by decide +kernel
theorem dX2_add_6 : decode cX2_add 6 = .ok (.aload_n 0, 1) := by decide +kernel
theorem dX2_add_7 : decode cX2_add 7 = .ok (.getfield 9, 3) := by decide +kernel
theorem dX2_add_10 : decode cX2_add 10 = .ok (.iload 7, 2) := by decide +kernel
theorem dX2_add_12 : decode cX2_add 12 = .ok (.iload_n 1, 1) := by decide +kernel
theorem dX2_add_13 : decode cX2_add 13 = .ok (.iastore, 1) := by decide +kernel
theorem dX2_add_14 : decode cX2_add 14 = .ok (.aload_n 0, 1) := by decide +kernel
theorem dX2_add_15 : decode cX2_add 15 = .ok (.getfield 15, 3) := by decide +kernel
theorem dX2_add_18 : decode cX2_add 18 = .ok (.iload 7, 2) := by decide +kernel
theorem dX2_add_20 : decode cX2_add 20 = .ok (.iload_n 2, 1) := by decide +kernel
theorem dX2_add_21 : decode cX2_add 21 = .ok (.iastore, 1) := by decide +kernel
theorem dX2_add_22 : decode cX2_add 22 = .ok (.aload_n 0, 1) := by decide +kernel
theorem dX2_add_23 : decode cX2_add 23 = .ok (.getfield 18, 3) := by decide +kernel
theorem dX2_add_26 : decode cX2_add 26 = .ok (.iload 7, 2) := by decide +kernel
theorem dX2_add_28 : decode cX2_add 28 = .ok (.iload_n 3, 1) := by decide +kernel
theorem dX2_add_29 : decode cX2_add 29 = .ok (.iastore, 1) := by decide +kernel
theorem dX2_add_30 : decode cX2_add 30 = .ok (.aload_n 0, 1) := by decide +kernel
theorem dX2_add_31 : decode cX2_add 31 = .ok (.getfield 21, 3) := by decide +kernel
theorem dX2_add_34 : decode cX2_add 34 = .ok (.iload 7, 2) := by decide +kernel
theorem dX2_add_36 : decode cX2_add 36 = .ok (.iload 4, 2) := by decide +kernel
theorem dX2_add_38 : decode cX2_add 38 = .ok (.iastore, 1) := by decide +kernel
theorem dX2_add_39 : decode cX2_add 39 = .ok (.aload_n 0, 1) := by decide +kernel
theorem dX2_add_40 : decode cX2_add 40 = .ok (.getfield 24, 3) := by decide +kernel
theorem dX2_add_43 : decode cX2_add 43 = .ok (.iload 7, 2) := by decide +kernel
theorem dX2_add_45 : decode cX2_add 45 = .ok (.iload 5, 2) := by decide +kernel
theorem dX2_add_47 : decode cX2_add 47 = .ok (.iastore, 1) := by decide +kernel
theorem dX2_add_48 : decode cX2_add 48 = .ok (.aload_n 0, 1) := by decide +kernel
theorem dX2_add_49 : decode cX2_add 49 = .ok (.getfield 27, 3) := by decide +kernel
theorem dX2_add_52 : decode cX2_add 52 = .ok (.iload 7, 2) := by decide +kernel
theorem dX2_add_54 : decode cX2_add 54 = .ok (.iload 6, 2) := by decide +kernel
theorem dX2_add_56 : decode cX2_add 56 = .ok (.iastore, 1) := by decide +kernel
theorem dX2_add_57 : decode cX2_add 57 = .ok (.aload_n 0, 1) := by decide +kernel
theorem dX2_add_58 : decode cX2_add 58 = .ok (.iload 7, 2) := by decide +kernel
theorem dX2_add_60 : decode cX2_add 60 = .ok (.iconst 1, 1) := by decide +kernel
theorem dX2_add_61 : decode cX2_add 61 = .ok (.iadd, 1) := by decide +kernel
theorem dX2_add_62 : decode cX2_add 62 = .ok (.putfield 30, 3) := by decide +kernel
theorem dX2_add_65 : decode cX2_add 65 = .ok (.iload 7, 2) := by decide +kernel
theorem dX2_add_67 : decode cX2_add 67 = .ok (.ireturn, 1) := by decide +kernel
theorem dX2_canBeForged_0 : decode cX2_canBeForged 0 = .ok (.aload_n 0, 1) := by decide +kernel
theorem dX2_canBeForged_1 : decode cX2_canBeForged 1 = .ok (.getfield 30, 3) := by decide +kernel
theorem dX2_canBeForged_4 : decode cX2_canBeForged 4 = .ok (.ifCond .eq 20, 3) := by decide +kernel
theorem dX2_canBeForged_7 : decode cX2_canBeForged 7 = .ok (.aload_n 0, 1) := by decide +kernel
theorem dX2_canBeForged_8 : decode cX2_canBeForged 8 = .ok (.getfield 9, 3) := by decide +kernel
theorem dX2_canBeForged_11 : decode cX2_canBeForged 11 = .ok (.aload_n 0, 1) := by decide +kernel
theorem dX2_canBeForged_12 : decode cX2_canBeForged 12 = .ok (.getfield 30, 3) := by decide +kernel
theorem dX2_canBeForged_15 : decode cX2_canBeForged 15 = .ok (.iconst 1, 1) := by decide +kernel
theorem dX2_canBeForged_16 : decode cX2_canBeForged 16 = .ok (.isub, 1) := by decide +kernel
theorem dX2_canBeForged_17 : decode cX2_canBeForged 17 = .ok (.iaload, 1) := by decide +kernel
theorem dX2_canBeForged_18 : decode cX2_canBeForged 18 = .ok (.invokestatic 34, 3) := by decide +kernel
theorem dX2_canBeForged_21 : decode cX2_canBeForged 21 = .ok (.ifCond .ne 5, 3) := by decide +kernel
theorem dX2_canBeForged_24 : decode cX2_canBeForged 24 = .ok (.iconst 0, 1) := by decide +kernel
theorem dX2_canBeForged_25 : decode cX2_canBeForged 25 = .ok (.ireturn, 1) := by decide +kernel
theorem dX2_canBeForged_26 : decode cX2_canBeForged 26 = .ok (.iconst 0, 1) := by decide +kernel
theorem dX2_canBeForged_27 : decode cX2_canBeForged 27 = .ok (.istore_n 1, 1) := by decide +kernel
theorem dX2_canBeForged_28 : decode cX2_canBeForged 28 = .ok (.iload_n 1, 1) := by decide +kernel
theorem dX2_canBeForged_29 : decode cX2_canBeForged 29 = .ok (.aload_n 0, 1) := by decide +kernel
theorem dX2_canBeForged_30 : decode cX2_canBeForged 30 = .ok (.getfield 30, 3) := by decide +kernel
theorem dX2_canBeForged_33 : decode cX2_canBeForged 33 = .ok (.if_icmp .ge 44, 3) := by decide +kernel
theorem dX2_canBeForged_36 : decode cX2_canBeForged 36 = .ok (.aload_n 0, 1) := by decide +kernel
theorem dX2_canBeForged_37 : decode cX2_canBeForged 37 = .ok (.getfield 9, 3) := by decide +kernel
theorem dX2_canBeForged_40 : decode cX2_canBeForged 40 = .ok (.iload_n 1, 1) := by decide +kernel
theorem dX2_canBeForged_41 : decode cX2_canBeForged 41 = .ok (.iaload, 1) := by decide +kernel
theorem dX2_canBeForged_42 : decode cX2_canBeForged 42 = .ok (.iconst 4, 1) := by decide +kernel
theorem dX2_canBeForged_43 : decode cX2_canBeForged 43 = .ok (.if_icmp .eq 13, 3) := by decide +kernel
theorem dX2_canBeForged_46 : decode cX2_canBeForged 46 = .ok (.aload_n 0, 1) := by decide +kernel
theorem dX2_canBeForged_47 : decode cX2_canBeForged 47 = .ok (.getfield 9, 3) := by decide +kernel
theorem dX2_canBeForged_50 : decode cX2_canBeForged 50 = .ok (.iload_n 1, 1) := by decide +kernel
theorem dX2_canBeForged_51 : decode cX2_canBeForged 51 = .ok (.iaload, 1) := by decide +kernel
theorem dX2_canBeForged_52 : decode cX2_canBeForged 52 = .ok (.iconst 5, 1) := by decide +kernel
theorem dX2_canBeForged_53 : decode cX2_canBeForged 53 = .ok (.if_icmp .ne 18, 3) := by decide +kernel
theorem dX2_canBeForged_56 : decode cX2_canBeForged 56 = .ok (.aload_n 0, 1) := by decide +kernel
theorem dX2_canBeForged_57 : decode cX2_canBeForged 57 = .ok (.getfield 27, 3) := by decide +kernel
theorem dX2_canBeForged_60 : decode cX2_canBeForged 60 = .ok (.iload_n 1, 1) := by decide +kernel
theorem dX2_canBeForged_61 : decode cX2_canBeForged 61 = .ok (.iaload, 1) := by decide +kernel
theorem dX2_canBeForged_62 : decode cX2_canBeForged 62 = .ok (.aload_n 0, 1) := by decide +kernel
theorem dX2_canBeForged_63 : decode cX2_canBeForged 63 = .ok (.getfield 30, 3) := by decide +kernel
theorem dX2_canBeForged_66 : decode cX2_canBeForged 66 = .ok (.if_icmp .lt 5, 3) := by decide +kernel
theorem dX2_canBeForged_69 : decode cX2_canBeForged 69 = .ok (.iconst 0, 1) := by decide +kernel
theorem dX2_canBeForged_70 : decode cX2_canBeForged 70 = .ok (.ireturn, 1) := by decide +kernel
theorem dX2_canBeForged_71 : decode cX2_canBeForged 71 = .ok (.iinc 1 1, 3) := by decide +kernel
theorem dX2_canBeForged_74 : decode cX2_canBeForged 74 = .ok (.goto (-46), 3) := by decide +kernel
theorem dX2_canBeForged_77 : decode cX2_canBeForged 77 = .ok (.iconst 1, 1) := by decide +kernel
theorem dX2_canBeForged_78 : decode cX2_canBeForged 78 = .ok (.ireturn, 1) := by decide +kernel
theorem dX2_neverGoesOnBehind_0 : decode cX2_neverGoesOnBehind 0 = .ok (.iload_n 0, 1) := by decide +kernel
theorem dX2_neverGoesOnBehind_1 : decode cX2_neverGoesOnBehind 1 = .ok (.iconst 4, 1) := by decide +kernel
theorem dX2_neverGoesOnBehind_2 : decode cX2_neverGoesOnBehind 2 = .ok (.if_icmp .eq 15, 3) := by decide +kernel
theorem dX2_neverGoesOnBehind_5 : decode cX2_neverGoesOnBehind 5 = .ok (.iload_n 0, 1) := by decide +kernel
theorem dX2_neverGoesOnBehind_6 : decode cX2_neverGoesOnBehind 6 = .ok (.bipush 7, 2) := by decide +kernel
theorem dX2_neverGoesOnBehind_8 : decode cX2_neverGoesOnBehind 8 = .ok (.if_icmp .eq 9, 3) := by decide +kernel
theorem dX2_neverGoesOnBehind_11 : decode cX2_neverGoesOnBehind 11 = .ok (.iload_n 0, 1) := by decide +kernel
theorem dX2_neverGoesOnBehind_12 : decode cX2_neverGoesOnBehind 12 = .ok (.bipush 8, 2) := by decide +kernel
theorem dX2_neverGoesOnBehind_14 : decode cX2_neverGoesOnBehind 14 = .ok (.if_icmp .ne 7, 3) := by decide +kernel
theorem dX2_neverGoesOnBehind_17 : decode cX2_neverGoesOnBehind 17 = .ok (.iconst 1, 1) := by decide +kernel
theorem dX2_neverGoesOnBehind_18 : decode cX2_neverGoesOnBehind 18 = .ok (.goto 4, 3) := by decide +kernel
theorem dX2_neverGoesOnBehind_21 : decode cX2_neverGoesOnBehind 21 = .ok (.iconst 0, 1) := by decide +kernel
theorem dX2_neverGoesOnBehind_22 : decode cX2_neverGoesOnBehind 22 = .ok (.ireturn, 1) := by decide +kernel
