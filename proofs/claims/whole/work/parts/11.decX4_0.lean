theorem dX4_init_0 : decode cX4_init 0 = .ok (.aload_n 0, 1) := by decide +kernel
theorem dX4_init_1 : decode cX4_init 1 = .ok (.invokespecial 1, 3) := by decide +kernel
theorem dX4_init_4 : decode cX4_init 4 = .ok (.aload_n 0, 1) := by decide +kernel
theorem dX4_init_5 : decode cX4_init 5 = .ok (.bipush 48, 2) := by decide +kernel
theorem dX4_init_7 : decode cX4_init 7 = .ok (.newarray .int, 2) := by decide +kernel
theorem dX4_init_9 : decode cX4_init 9 = .ok (.putfield 7, 3) := by decide +kernel
theorem dX4_init_12 : decode cX4_init 12 = .ok (.aload_n 0, 1) := by decide +kernel
theorem dX4_init_13 : decode cX4_init 13 = .ok (.bipush 48, 2) := by decide +kernel
theorem dX4_init_15 : decode cX4_init 15 = .ok (.newarray .int, 2) := by decide +kernel
theorem dX4_init_17 : decode cX4_init 17 = .ok (.putfield 13, 3) := by decide +kernel
theorem dX4_init_20 : decode cX4_init 20 = .ok (.aload_n 0, 1) := by decide +kernel
theorem dX4_init_21 : decode cX4_init 21 = .ok (.bipush 48, 2) := by decide +kernel
theorem dX4_init_23 : decode cX4_init 23 = .ok (.newarray .int, 2) := by decide +kernel
theorem dX4_init_25 : decode cX4_init 25 = .ok (.putfield 16, 3) := by decide +kernel
theorem dX4_init_28 : decode cX4_init 28 = .ok (.aload_n 0, 1) := by decide +kernel
theorem dX4_init_29 : decode cX4_init 29 = .ok (.bipush 48, 2) := by decide +kernel
theorem dX4_init_31 : decode cX4_init 31 = .ok (.newarray .int, 2) := by decide +kernel
theorem dX4_init_33 : decode cX4_init 33 = .ok (.putfield 19, 3) := by decide +kernel
theorem dX4_init_36 : decode cX4_init 36 = .ok (.aload_n 0, 1) := by decide +kernel
theorem dX4_init_37 : decode cX4_init 37 = .ok (.bipush 48, 2) := by decide +kernel
theorem dX4_init_39 : decode cX4_init 39 = .ok (.newarray .int, 2) := by decide +kernel
theorem dX4_init_41 : decode cX4_init 41 = .ok (.putfield 22, 3) := by decide +kernel
theorem dX4_init_44 : decode cX4_init 44 = .ok (.aload_n 0, 1) := by decide +kernel
theorem dX4_init_45 : decode cX4_init 45 = .ok (.bipush 8, 2) := by decide +kernel
theorem dX4_init_47 : decode cX4_init 47 = .ok (.newarray .int, 2) := by decide +kernel
theorem dX4_init_49 : decode cX4_init 49 = .ok (.putfield 25, 3) := by decide +kernel
theorem dX4_init_52 : decode cX4_init 52 = .ok (.aload_n 0, 1) := by decide +kernel
theorem dX4_init_53 : decode cX4_init 53 = .ok (.sipush 400, 3) := by decide +kernel
theorem dX4_init_56 : decode cX4_init 56 = .ok (.newarray .int, 2) := by decide +kernel
theorem dX4_init_58 : decode cX4_init 58 = .ok (.putfield 28, 3) := by decide +kernel
theorem dX4_init_61 : decode cX4_init 61 = .ok (.aload_n 0, 1) := by decide +kernel
theorem dX4_init_62 : decode cX4_init 62 = .ok (.bipush 49, 2) := by decide +kernel
theorem dX4_init_64 : decode cX4_init 64 = .ok (.newarray .int, 2) := by decide +kernel
theorem dX4_init_66 : decode cX4_init 66 = .ok (.putfield 31, 3) := by decide +kernel
theorem dX4_init_69 : decode cX4_init 69 = .ok (.aload_n 0, 1) := by decide +kernel
theorem dX4_init_70 : decode cX4_init 70 = .ok (.bipush 48, 2) := by decide +kernel
theorem dX4_init_72 : decode cX4_init 72 = .ok (.newarray .boolean, 2) := by decide +kernel
theorem dX4_init_74 : decode cX4_init 74 = .ok (.putfield 34, 3) := by decide +kernel
theorem dX4_init_77 : decode cX4_init 77 = .ok (.aload_n 0, 1) := by decide +kernel
theorem dX4_init_78 : decode cX4_init 78 = .ok (.bipush 49, 2) := by decide +kernel
theorem dX4_init_80 : decode cX4_init 80 = .ok (.newarray .int, 2) := by decide +kernel
theorem dX4_init_82 : decode cX4_init 82 = .ok (.putfield 38, 3) := by decide +kernel
theorem dX4_init_85 : decode cX4_init 85 = .ok (.aload_n 0, 1) := by decide +kernel
theorem dX4_init_86 : decode cX4_init 86 = .ok (.bipush 8, 2) := by decide +kernel
theorem dX4_init_88 : decode cX4_init 88 = .ok (.newarray .int, 2) := by decide +kernel
theorem dX4_init_90 : decode cX4_init 90 = .ok (.putfield 41, 3) := by decide +kernel
theorem dX4_init_93 : decode cX4_init 93 = .ok (.aload_n 0, 1) := by decide +kernel
theorem dX4_init_94 : decode cX4_init 94 = .ok (.bipush 16, 2) := by decide +kernel
theorem dX4_init_96 : decode cX4_init 96 = .ok (.newarray .int, 2) := by decide +kernel
theorem dX4_init_98 : decode cX4_init 98 = .ok (.putfield 44, 3) := by decide +kernel
theorem dX4_init_101 : decode cX4_init 101 = .ok (.return_, 1) := by decide +kernel
theorem dX4_thrown_0 : decode cX4_thrown 0 = .ok (.aload_n 0, 1) := by decide +kernel
theorem dX4_thrown_1 : decode cX4_thrown 1 = .ok (.getfield 47, 3) := by decide +kernel
theorem dX4_thrown_4 : decode cX4_thrown 4 = .ok (.ireturn, 1) := by decide +kernel
theorem dX4_isVariable_0 : decode cX4_isVariable 0 = .ok (.iload_n 0, 1) := by decide +kernel
theorem dX4_isVariable_1 : decode cX4_isVariable 1 = .ok (.ifCond .lt 13, 3) := by decide +kernel
theorem dX4_isVariable_4 : decode cX4_isVariable 4 = .ok (.iload_n 0, 1) := by decide +kernel
theorem dX4_isVariable_5 : decode cX4_isVariable 5 = .ok (.bipush 8, 2) := by decide +kernel
theorem dX4_isVariable_7 : decode cX4_isVariable 7 = .ok (.if_icmp .ge 7, 3) := by decide +kernel
theorem dX4_isVariable_10 : decode cX4_isVariable 10 = .ok (.iconst 1, 1) := by decide +kernel
theorem dX4_isVariable_11 : decode cX4_isVariable 11 = .ok (.goto 4, 3) := by decide +kernel
theorem dX4_isVariable_14 : decode cX4_isVariable 14 = .ok (.iconst 0, 1) := by decide +kernel
theorem dX4_isVariable_15 : decode cX4_isVariable 15 = .ok (.ireturn, 1) := by decide +kernel
theorem dX4_append_0 : decode cX4_append 0 = .ok (.aload_n 0, 1) := by decide +kernel
theorem dX4_append_1 : decode cX4_append 1 = .ok (.iload_n 1, 1) := by decide +kernel
theorem dX4_append_2 : decode cX4_append 2 = .ok (.ifCond .ne 7, 3) := by decide +kernel
theorem dX4_append_5 : decode cX4_append 5 = .ok (.iconst 1, 1) := by decide +kernel
theorem dX4_append_6 : decode cX4_append 6 = .ok (.goto 17, 3) := by decide +kernel
theorem dX4_append_9 : decode cX4_append 9 = .ok (.aload_n 0, 1) := by decide +kernel
theorem dX4_append_10 : decode cX4_append 10 = .ok (.getfield 51, 3) := by decide +kernel
theorem dX4_append_13 : decode cX4_append 13 = .ok (.bipush 48, 2) := by decide +kernel
theorem dX4_append_15 : decode cX4_append 15 = .ok (.if_icmp .ne 7, 3) := by decide +kernel
theorem dX4_append_18 : decode cX4_append 18 = .ok (.iconst 2, 1) := by decide +kernel
theorem dX4_append_19 : decode cX4_append 19 = .ok (.goto 4, 3) := by decide +kernel
theorem dX4_append_22 : decode cX4_append 22 = .ok (.iconst 0, 1) := by decide +kernel
theorem dX4_append_23 : decode cX4_append 23 = .ok (.putfield 47, 3) := by decide +kernel
theorem dX4_append_26 : decode cX4_append 26 = .ok (.aload_n 0, 1) := by decide +kernel
theorem dX4_append_27 : decode cX4_append 27 = .ok (.getfield 47, 3) := by decide +kernel
theorem dX4_append_30 : decode cX4_append 30 = .ok (.ifCond .le 5, 3) := by decide +kernel
theorem dX4_append_33 : decode cX4_append 33 = .ok (.iconst 0, 1) := by decide +kernel
theorem dX4_append_34 : decode cX4_append 34 = .ok (.ireturn, 1) := by decide +kernel
theorem dX4_append_35 : decode cX4_append 35 = .ok (.aload_n 0, 1) := by decide +kernel
theorem dX4_append_36 : decode cX4_append 36 = .ok (.getfield 7, 3) := by decide +kernel
theorem dX4_append_39 : decode cX4_append 39 = .ok (.aload_n 0, 1) := by decide +kernel
theorem dX4_append_40 : decode cX4_append 40 = .ok (.getfield 51, 3) := by decide +kernel
theorem dX4_append_43 : decode cX4_append 43 = .ok (.iload_n 2, 1) := by decide +kernel
theorem dX4_append_44 : decode cX4_append 44 = .ok (.iastore, 1) := by decide +kernel
theorem dX4_append_45 : decode cX4_append 45 = .ok (.aload_n 0, 1) := by decide +kernel
theorem dX4_append_46 : decode cX4_append 46 = .ok (.getfield 13, 3) := by decide +kernel
theorem dX4_append_49 : decode cX4_append 49 = .ok (.aload_n 0, 1) := by decide +kernel
theorem dX4_append_50 : decode cX4_append 50 = .ok (.getfield 51, 3) := by decide +kernel
theorem dX4_append_53 : decode cX4_append 53 = .ok (.iload_n 3, 1) := by decide +kernel
theorem dX4_append_54 : decode cX4_append 54 = .ok (.iastore, 1) := by decide +kernel
theorem dX4_append_55 : decode cX4_append 55 = .ok (.aload_n 0, 1) := by decide +kernel
theorem dX4_append_56 : decode cX4_append 56 = .ok (.getfield 16, 3) := by decide +kernel
theorem dX4_append_59 : decode cX4_append 59 = .ok (.aload_n 0, 1) := by decide +kernel
theorem dX4_append_60 : decode cX4_append 60 = .ok (.getfield 51, 3) := by decide +kernel
theorem dX4_append_63 : decode cX4_append 63 = .ok (.iload 4, 2) := by decide +kernel
theorem dX4_append_65 : decode cX4_append 65 = .ok (.iastore, 1) := by decide +kernel
theorem dX4_append_66 : decode cX4_append 66 = .ok (.aload_n 0, 1) := by decide +kernel
theorem dX4_append_67 : decode cX4_append 67 = .ok (.dup, 1) := by decide +kernel
theorem dX4_append_68 : decode cX4_append 68 = .ok (.getfield 51, 3) := by decide +kernel
theorem dX4_append_71 : decode cX4_append 71 = .ok (.iconst 1, 1) := by decide +kernel
theorem dX4_append_72 : decode cX4_append 72 = .ok (.iadd, 1) := by decide +kernel
theorem dX4_append_73 : decode cX4_append 73 = .ok (.putfield 51, 3) := by decide +kernel
theorem dX4_append_76 : decode cX4_append 76 = .ok (.aload_n 0, 1) := by decide +kernel
theorem dX4_append_77 : decode cX4_append 77 = .ok (.iconst 0, 1) := by decide +kernel
theorem dX4_append_78 : decode cX4_append 78 = .ok (.putfield 54, 3) := by decide +kernel
theorem dX4_append_81 : decode cX4_append 81 = .ok (.aload_n 0, 1) := by decide +kernel
theorem dX4_append_82 : decode cX4_append 82 = .ok (.iconst 0, 1) := by decide +kernel
theorem dX4_append_83 : decode cX4_append 83 = .ok (.putfield 58, 3) := by decide +kernel
theorem dX4_append_86 : decode cX4_append 86 = .ok (.aload_n 0, 1) := by decide +kernel
theorem dX4_append_87 : decode cX4_append 87 = .ok (.getfield 51, 3) := by decide +kernel
theorem dX4_append_90 : decode cX4_append 90 = .ok (.iconst 1, 1) := by decide +kernel
theorem dX4_append_91 : decode cX4_append 91 = .ok (.isub, 1) := by decide +kernel
theorem dX4_append_92 : decode cX4_append 92 = .ok (.ireturn, 1) := by decide +kernel
theorem dX4_constant_0 : decode cX4_constant 0 = .ok (.aload_n 0, 1) := by decide +kernel
theorem dX4_constant_1 : decode cX4_constant 1 = .ok (.iload_n 1, 1) := by decide +kernel
theorem dX4_constant_2 : decode cX4_constant 2 = .ok (.invokestatic 61, 3) := by decide +kernel
theorem dX4_constant_5 : decode cX4_constant 5 = .ok (.iconst 0, 1) := by decide +kernel
theorem dX4_constant_6 : decode cX4_constant 6 = .ok (.iload_n 2, 1) := by decide +kernel
theorem dX4_constant_7 : decode cX4_constant 7 = .ok (.iload_n 1, 1) := by decide +kernel
theorem dX4_constant_8 : decode cX4_constant 8 = .ok (.invokevirtual 65, 3) := by decide +kernel
theorem dX4_constant_11 : decode cX4_constant 11 = .ok (.ireturn, 1) := by decide +kernel
theorem dX4_compute_0 : decode cX4_compute 0 = .ok (.aload_n 0, 1) := by decide +kernel
theorem dX4_compute_1 : decode cX4_compute 1 = .ok (.iload_n 1, 1) := by decide +kernel
theorem dX4_compute_2 : decode cX4_compute 2 = .ok (.ifCond .lt 35, 3) := by decide +kernel
theorem dX4_compute_5 : decode cX4_compute 5 = .ok (.iload_n 1, 1) := by decide +kernel
theorem dX4_compute_6 : decode cX4_compute 6 = .ok (.bipush 7, 2) := by decide +kernel
theorem dX4_compute_8 : decode cX4_compute 8 = .ok (.if_icmp .gt 29, 3) := by decide +kernel
theorem dX4_compute_11 : decode cX4_compute 11 = .ok (.iload_n 2, 1) := by decide +kernel
theorem dX4_compute_12 : decode cX4_compute 12 = .ok (.invokestatic 61, 3) := by decide +kernel
theorem dX4_compute_15 : decode cX4_compute 15 = .ok (.ifCond .eq 22, 3) := by decide +kernel
theorem dX4_compute_18 : decode cX4_compute 18 = .ok (.iload_n 3, 1) := by decide +kernel
theorem dX4_compute_19 : decode cX4_compute 19 = .ok (.invokestatic 61, 3) := by decide +kernel
theorem dX4_compute_22 : decode cX4_compute 22 = .ok (.ifCond .eq 15, 3) := by decide +kernel
theorem dX4_compute_25 : decode cX4_compute 25 = .ok (.iload 4, 2) := by decide +kernel
theorem dX4_compute_27 : decode cX4_compute 27 = .ok (.invokestatic 61, 3) := by decide +kernel
theorem dX4_compute_30 : decode cX4_compute 30 = .ok (.ifCond .eq 7, 3) := by decide +kernel
theorem dX4_compute_33 : decode cX4_compute 33 = .ok (.iconst 1, 1) := by decide +kernel
theorem dX4_compute_34 : decode cX4_compute 34 = .ok (.goto 4, 3) := by decide +kernel
theorem dX4_compute_37 : decode cX4_compute 37 = .ok (.iconst 0, 1) := by decide +kernel
theorem dX4_compute_38 : decode cX4_compute 38 = .ok (.iconst 1, 1) := by decide +kernel
theorem dX4_compute_39 : decode cX4_compute 39 = .ok (.iload_n 1, 1) := by decide +kernel
theorem dX4_compute_40 : decode cX4_compute 40 = .ok (.iload_n 2, 1) := by decide +kernel
theorem dX4_compute_41 : decode cX4_compute 41 = .ok (.invokevirtual 65, 3) := by decide +kernel
theorem dX4_compute_44 : decode cX4_compute 44 = .ok (.istore 5, 2) := by decide +kernel
theorem dX4_compute_46 : decode cX4_compute 46 = .ok (.aload_n 0, 1) := by decide +kernel
theorem dX4_compute_47 : decode cX4_compute 47 = .ok (.getfield 47, 3) := by decide +kernel
theorem dX4_compute_50 : decode cX4_compute 50 = .ok (.ifCond .ne 20, 3) := by decide +kernel
theorem dX4_compute_53 : decode cX4_compute 53 = .ok (.aload_n 0, 1) := by decide +kernel
theorem dX4_compute_54 : decode cX4_compute 54 = .ok (.getfield 19, 3) := by decide +kernel
theorem dX4_compute_57 : decode cX4_compute 57 = .ok (.iload 5, 2) := by decide +kernel
theorem dX4_compute_59 : decode cX4_compute 59 = .ok (.iload_n 3, 1) := by decide +kernel
theorem dX4_compute_60 : decode cX4_compute 60 = .ok (.iastore, 1) := by decide +kernel
theorem dX4_compute_61 : decode cX4_compute 61 = .ok (.aload_n 0, 1) := by decide +kernel
theorem dX4_compute_62 : decode cX4_compute 62 = .ok (.getfield 22, 3) := by decide +kernel
theorem dX4_compute_65 : decode cX4_compute 65 = .ok (.iload 5, 2) := by decide +kernel
theorem dX4_compute_67 : decode cX4_compute 67 = .ok (.iload 4, 2) := by decide +kernel
theorem dX4_compute_69 : decode cX4_compute 69 = .ok (.iastore, 1) := by decide +kernel
theorem dX4_compute_70 : decode cX4_compute 70 = .ok (.iload 5, 2) := by decide +kernel
theorem dX4_compute_72 : decode cX4_compute 72 = .ok (.ireturn, 1) := by decide +kernel
theorem dX4_load_0 : decode cX4_load 0 = .ok (.aload_n 0, 1) := by decide +kernel
theorem dX4_load_1 : decode cX4_load 1 = .ok (.iload_n 1, 1) := by decide +kernel
theorem dX4_load_2 : decode cX4_load 2 = .ok (.invokestatic 61, 3) := by decide +kernel
theorem dX4_load_5 : decode cX4_load 5 = .ok (.ifCond .eq 14, 3) := by decide +kernel
theorem dX4_load_8 : decode cX4_load 8 = .ok (.iload_n 2, 1) := by decide +kernel
theorem dX4_load_9 : decode cX4_load 9 = .ok (.invokestatic 61, 3) := by decide +kernel
theorem dX4_load_12 : decode cX4_load 12 = .ok (.ifCond .eq 7, 3) := by decide +kernel
theorem dX4_load_15 : decode cX4_load 15 = .ok (.iconst 1, 1) := by decide +kernel
theorem dX4_load_16 : decode cX4_load 16 = .ok (.goto 4, 3) := by decide +kernel
theorem dX4_load_19 : decode cX4_load 19 = .ok (.iconst 0, 1) := by decide +kernel
theorem dX4_load_20 : decode cX4_load 20 = .ok (.iconst 2, 1) := by decide +kernel
theorem dX4_load_21 : decode cX4_load 21 = .ok (.iload_n 1, 1) := by decide +kernel
theorem dX4_load_22 : decode cX4_load 22 = .ok (.iload_n 2, 1) := by decide +kernel
theorem dX4_load_23 : decode cX4_load 23 = .ok (.invokevirtual 65, 3) := by decide +kernel
theorem dX4_load_26 : decode cX4_load 26 = .ok (.ireturn, 1) := by decide +kernel
theorem dX4_store_0 : decode cX4_store 0 = .ok (.aload_n 0, 1) := by decide +kernel
theorem dX4_store_1 : decode cX4_store 1 = .ok (.iload_n 1, 1) := by decide +kernel
theorem dX4_store_2 : decode cX4_store 2 = .ok (.invokestatic 61, 3) := by decide +kernel
theorem dX4_store_5 : decode cX4_store 5 = .ok (.ifCond .eq 14, 3) := by decide +kernel
theorem dX4_store_8 : decode cX4_store 8 = .ok (.iload_n 2, 1) := by decide +kernel
theorem dX4_store_9 : decode cX4_store 9 = .ok (.invokestatic 61, 3) := by decide +kernel
theorem dX4_store_12 : decode cX4_store 12 = .ok (.ifCond .eq 7, 3) := by decide +kernel
theorem dX4_store_15 : decode cX4_store 15 = .ok (.iconst 1, 1) := by decide +kernel
theorem dX4_store_16 : decode cX4_store 16 = .ok (.goto 4, 3) := by decide +kernel
theorem dX4_store_19 : decode cX4_store 19 = .ok (.iconst 0, 1) := by decide +kernel
theorem dX4_store_20 : decode cX4_store 20 = .ok (.iconst 3, 1) := by decide +kernel
theorem dX4_store_21 : decode cX4_store 21 = .ok (.iload_n 1, 1) := by decide +kernel
theorem dX4_store_22 : decode cX4_store 22 = .ok (.iload_n 2, 1) := by decide +kernel
theorem dX4_store_23 : decode cX4_store 23 = .ok (.invokevirtual 65, 3) := by decide +kernel
theorem dX4_store_26 : decode cX4_store 26 = .ok (.ireturn, 1) := by decide +kernel
theorem dX4_jump_0 : decode cX4_jump 0 = .ok (.aload_n 0, 1) := by decide +kernel
theorem dX4_jump_1 : decode cX4_jump 1 = .ok (.iload_n 1, 1) := by decide +kernel
theorem dX4_jump_2 : decode cX4_jump 2 = .ok (.ifCond .lt 13, 3) := by decide +kernel
theorem dX4_jump_5 : decode cX4_jump 5 = .ok (.iload_n 1, 1) := by decide +kernel
theorem dX4_jump_6 : decode cX4_jump 6 = .ok (.bipush 47, 2) := by decide +kernel
theorem dX4_jump_8 : decode cX4_jump 8 = .ok (.if_icmp .gt 7, 3) := by decide +kernel
theorem dX4_jump_11 : decode cX4_jump 11 = .ok (.iconst 1, 1) := by decide +kernel
theorem dX4_jump_12 : decode cX4_jump 12 = .ok (.goto 4, 3) := by decide +kernel
theorem dX4_jump_15 : decode cX4_jump 15 = .ok (.iconst 0, 1) := by decide +kernel
theorem dX4_jump_16 : decode cX4_jump 16 = .ok (.iconst 4, 1) := by decide +kernel
theorem dX4_jump_17 : decode cX4_jump 17 = .ok (.iload_n 1, 1) := by decide +kernel
theorem dX4_jump_18 : decode cX4_jump 18 = .ok (.iconst 0, 1) := by decide +kernel
theorem dX4_jump_19 : decode cX4_jump 19 = .ok (.invokevirtual 65, 3) := by decide +kernel
theorem dX4_jump_22 : decode cX4_jump 22 = .ok (.ireturn, 1) := by decide +kernel
theorem dX4_isRelation_0 : decode cX4_isRelation 0 = .ok (.iload_n 0, 1) := by decide +kernel
theorem dX4_isRelation_1 : decode cX4_isRelation 1 = .ok (.ifCond .lt 8, 3) := by decide +kernel
theorem dX4_isRelation_4 : decode cX4_isRelation 4 = .ok (.iload_n 0, 1) := by decide +kernel
theorem dX4_isRelation_5 : decode cX4_isRelation 5 = .ok (.iconst 3, 1) := by decide +kernel
theorem dX4_isRelation_6 : decode cX4_isRelation 6 = .ok (.if_icmp .le 15, 3) := by decide +kernel
theorem dX4_isRelation_9 : decode cX4_isRelation 9 = .ok (.iload_n 0, 1) := by decide +kernel
theorem dX4_isRelation_10 : decode cX4_isRelation 10 = .ok (.bipush 8, 2) := by decide +kernel
theorem dX4_isRelation_12 : decode cX4_isRelation 12 = .ok (.if_icmp .lt 13, 3) := by decide +kernel
theorem dX4_isRelation_15 : decode cX4_isRelation 15 = .ok (.iload_n 0, 1) := by decide +kernel
theorem dX4_isRelation_16 : decode cX4_isRelation 16 = .ok (.bipush 13, 2) := by decide +kernel
theorem dX4_isRelation_18 : decode cX4_isRelation 18 = .ok (.if_icmp .gt 7, 3) := by decide +kernel
theorem dX4_isRelation_21 : decode cX4_isRelation 21 = .ok (.iconst 1, 1) := by decide +kernel
theorem dX4_isRelation_22 : decode cX4_isRelation 22 = .ok (.goto 4, 3) := by decide +kernel
theorem dX4_isRelation_25 : decode cX4_isRelation 25 = .ok (.iconst 0, 1) := by decide +kernel
theorem dX4_isRelation_26 : decode cX4_isRelation 26 = .ok (.ireturn, 1) := by decide +kernel
theorem dX4_branch_0 : decode cX4_branch 0 = .ok (.aload_n 0, 1) := by decide +kernel
theorem dX4_branch_1 : decode cX4_branch 1 = .ok (.iload_n 1, 1) := by decide +kernel
theorem dX4_branch_2 : decode cX4_branch 2 = .ok (.invokestatic 69, 3) := by decide +kernel
theorem dX4_branch_5 : decode cX4_branch 5 = .ok (.ifCond .eq 33, 3) := by decide +kernel
theorem dX4_branch_8 : decode cX4_branch 8 = .ok (.iload_n 2, 1) := by decide +kernel
theorem dX4_branch_9 : decode cX4_branch 9 = .ok (.invokestatic 61, 3) := by decide +kernel
theorem dX4_branch_12 : decode cX4_branch 12 = .ok (.ifCond .eq 26, 3) := by decide +kernel
theorem dX4_branch_15 : decode cX4_branch 15 = .ok (.iload_n 3, 1) := by decide +kernel
theorem dX4_branch_16 : decode cX4_branch 16 = .ok (.invokestatic 61, 3) := by decide +kernel
theorem dX4_branch_19 : decode cX4_branch 19 = .ok (.ifCond .eq 19, 3) := by decide +kernel
theorem dX4_branch_22 : decode cX4_branch 22 = .ok (.iload 4, 2) := by decide +kernel
theorem dX4_branch_24 : decode cX4_branch 24 = .ok (.ifCond .lt 14, 3) := by decide +kernel
theorem dX4_branch_27 : decode cX4_branch 27 = .ok (.iload 4, 2) := by decide +kernel
theorem dX4_branch_29 : decode cX4_branch 29 = .ok (.bipush 47, 2) := by decide +kernel
theorem dX4_branch_31 : decode cX4_branch 31 = .ok (.if_icmp .gt 7, 3) := by decide +kernel
theorem dX4_branch_34 : decode cX4_branch 34 = .ok (.iconst 1, 1) := by decide +kernel
theorem dX4_branch_35 : decode cX4_branch 35 = .ok (.goto 4, 3) := by decide +kernel
theorem dX4_branch_38 : decode cX4_branch 38 = .ok (.iconst 0, 1) := by decide +kernel
theorem dX4_branch_39 : decode cX4_branch 39 = .ok (.iconst 5, 1) := by decide +kernel
theorem dX4_branch_40 : decode cX4_branch 40 = .ok (.iload_n 1, 1) := by decide +kernel
theorem dX4_branch_41 : decode cX4_branch 41 = .ok (.iload_n 2, 1) := by decide +kernel
theorem dX4_branch_42 : decode cX4_branch 42 = .ok (.invokevirtual 65, 3) := by decide +kernel
theorem dX4_branch_45 : decode cX4_branch 45 = .ok (.istore 5, 2) := by decide +kernel
theorem dX4_branch_47 : decode cX4_branch 47 = .ok (.aload_n 0, 1) := by decide +kernel
theorem dX4_branch_48 : decode cX4_branch 48 = .ok (.getfield 47, 3) := by decide +kernel
theorem dX4_branch_51 : decode cX4_branch 51 = .ok (.ifCond .ne 20, 3) := by decide +kernel
theorem dX4_branch_54 : decode cX4_branch 54 = .ok (.aload_n 0, 1) := by decide +kernel
theorem dX4_branch_55 : decode cX4_branch 55 = .ok (.getfield 19, 3) := by decide +kernel
theorem dX4_branch_58 : decode cX4_branch 58 = .ok (.iload 5, 2) := by decide +kernel
theorem dX4_branch_60 : decode cX4_branch 60 = .ok (.iload_n 3, 1) := by decide +kernel
theorem dX4_branch_61 : decode cX4_branch 61 = .ok (.iastore, 1) := by decide +kernel
theorem dX4_branch_62 : decode cX4_branch 62 = .ok (.aload_n 0, 1) := by decide +kernel
theorem dX4_branch_63 : decode cX4_branch 63 = .ok (.getfield 22, 3) := by decide +kernel
theorem dX4_branch_66 : decode cX4_branch 66 = .ok (.iload 5, 2) := by decide +kernel
theorem dX4_branch_68 : decode cX4_branch 68 = .ok (.iload 4, 2) := by decide +kernel
theorem dX4_branch_70 : decode cX4_branch 70 = .ok (.iastore, 1) := by decide +kernel
theorem dX4_branch_71 : decode cX4_branch 71 = .ok (.iload 5, 2) := by decide +kernel
theorem dX4_branch_73 : decode cX4_branch 73 = .ok (.ireturn, 1) := by decide +kernel
theorem dX4_out_0 : decode cX4_out 0 = .ok (.aload_n 0, 1) := by decide +kernel
theorem dX4_out_1 : decode cX4_out 1 = .ok (.iload_n 1, 1) := by decide +kernel
theorem dX4_out_2 : decode cX4_out 2 = .ok (.invokestatic 61, 3) := by decide +kernel
theorem dX4_out_5 : decode cX4_out 5 = .ok (.bipush 6, 2) := by decide +kernel
theorem dX4_out_7 : decode cX4_out 7 = .ok (.iload_n 1, 1) := by decide +kernel
theorem dX4_out_8 : decode cX4_out 8 = .ok (.iconst 0, 1) := by decide +kernel
theorem dX4_out_9 : decode cX4_out 9 = .ok (.invokevirtual 65, 3) := by decide +kernel
theorem dX4_out_12 : decode cX4_out 12 = .ok (.ireturn, 1) := by decide +kernel
theorem dX4_stop_0 : decode cX4_stop 0 = .ok (.aload_n 0, 1) := by decide +kernel
theorem dX4_stop_1 : decode cX4_stop 1 = .ok (.iload_n 1, 1) := by decide +kernel
theorem dX4_stop_2 : decode cX4_stop 2 = .ok (.iconst (-1), 1) := by decide +kernel
theorem dX4_stop_3 : decode cX4_stop 3 = .ok (.if_icmp .lt 14, 3) := by decide +kernel
theorem dX4_stop_6 : decode cX4_stop 6 = .ok (.iload_n 1, 1) := by decide +kernel
theorem dX4_stop_7 : decode cX4_stop 7 = .ok (.sipush 255, 3) := by decide +kernel
theorem dX4_stop_10 : decode cX4_stop 10 = .ok (.if_icmp .gt 7, 3) := by decide +kernel
theorem dX4_stop_13 : decode cX4_stop 13 = .ok (.iconst 1, 1) := by decide +kernel
theorem dX4_stop_14 : decode cX4_stop 14 = .ok (.goto 4, 3) := by decide +kernel
theorem dX4_stop_17 : decode cX4_stop 17 = .ok (.iconst 0, 1) := by decide +kernel
theorem dX4_stop_18 : decode cX4_stop 18 = .ok (.iload_n 1, 1) := by decide +kernel
theorem dX4_stop_19 : decode cX4_stop 19 = .ok (.ifCond .ge 8, 3) := by decide +kernel
theorem dX4_stop_22 : decode cX4_stop 22 = .ok (.bipush 7, 2) := by decide +kernel
theorem dX4_stop_24 : decode cX4_stop 24 = .ok (.goto 5, 3) := by decide +kernel
theorem dX4_stop_27 : decode cX4_stop 27 = .ok (.bipush 8, 2) := by decide +kernel
theorem dX4_stop_29 : decode cX4_stop 29 = .ok (.iload_n 1, 1) := by decide +kernel
theorem dX4_stop_30 : decode cX4_stop 30 = .ok (.iconst 0, 1) := by decide +kernel
theorem dX4_stop_31 : decode cX4_stop 31 = .ok (.invokevirtual 65, 3) := by decide +kernel
theorem dX4_stop_34 : decode cX4_stop 34 = .ok (.ireturn, 1) := by decide +kernel
theorem dX4_clear_0 : decode cX4_clear 0 = .ok (.aload_n 0, 1) := by decide +kernel
theorem dX4_clear_1 : decode cX4_clear 1 = .ok (.iconst 0, 1) := by decide +kernel
theorem dX4_clear_2 : decode cX4_clear 2 = .ok (.putfield 47, 3) := by decide +kernel
theorem dX4_clear_5 : decode cX4_clear 5 = .ok (.aload_n 0, 1) := by decide +kernel
theorem dX4_clear_6 : decode cX4_clear 6 = .ok (.iconst 0, 1) := by decide +kernel
theorem dX4_clear_7 : decode cX4_clear 7 = .ok (.putfield 51, 3) := by decide +kernel
theorem dX4_clear_10 : decode cX4_clear 10 = .ok (.aload_n 0, 1) := by decide +kernel
theorem dX4_clear_11 : decode cX4_clear 11 = .ok (.iconst 0, 1) := by decide +kernel
theorem dX4_clear_12 : decode cX4_clear 12 = .ok (.putfield 54, 3) := by decide +kernel
theorem dX4_clear_15 : decode cX4_clear 15 = .ok (.aload_n 0, 1) := by decide +kernel
theorem dX4_clear_16 : decode cX4_clear 16 = .ok (.iconst 0, 1) := by decide +kernel
theorem dX4_clear_17 : decode cX4_clear 17 = .ok (.putfield 58, 3) := by decide +kernel
theorem dX4_clear_20 : decode cX4_clear 20 = .ok (.return_, 1) := by decide +kernel
theorem dX4_slot_0 : decode cX4_slot 0 = .ok (.iload_n 0, 1) := by decide +kernel
theorem dX4_slot_1 : decode cX4_slot 1 = .ok (.iconst 4, 1) := by decide +kernel
theorem dX4_slot_2 : decode cX4_slot 2 = .ok (.if_icmp .ge 7, 3) := by decide +kernel
theorem dX4_slot_5 : decode cX4_slot 5 = .ok (.iconst 0, 1) := by decide +kernel
theorem dX4_slot_6 : decode cX4_slot 6 = .ok (.goto 4, 3) := by decide +kernel
theorem dX4_slot_9 : decode cX4_slot 9 = .ok (.iconst 1, 1) := by decide +kernel
theorem dX4_slot_10 : decode cX4_slot 10 = .ok (.ireturn, 1) := by decide +kernel
theorem dX4_shiftOf_0 : decode cX4_shiftOf 0 = .ok (.iconst 0, 1) := by decide +kernel
theorem dX4_shiftOf_1 : decode cX4_shiftOf 1 = .ok (.istore_n 1, 1) := by decide +kernel
theorem dX4_shiftOf_2 : decode cX4_shiftOf 2 = .ok (.bipush 24, 2) := by decide +kernel
theorem dX4_shiftOf_4 : decode cX4_shiftOf 4 = .ok (.istore_n 2, 1) := by decide +kernel
theorem dX4_shiftOf_5 : decode cX4_shiftOf 5 = .ok (.iload_n 2, 1) := by decide +kernel
theorem dX4_shiftOf_6 : decode cX4_shiftOf 6 = .ok (.ifCond .le 38, 3) := by decide +kernel
theorem dX4_shiftOf_9 : decode cX4_shiftOf 9 = .ok (.iload_n 0, 1) := by decide +kernel
theorem dX4_shiftOf_10 : decode cX4_shiftOf 10 = .ok (.iload_n 2, 1) := by decide +kernel
theorem dX4_shiftOf_11 : decode cX4_shiftOf 11 = .ok (.iushr, 1) := by decide +kernel
theorem dX4_shiftOf_12 : decode cX4_shiftOf 12 = .ok (.istore_n 3, 1) := by decide +kernel
theorem dX4_shiftOf_13 : decode cX4_shiftOf 13 = .ok (.iload_n 3, 1) := by decide +kernel
theorem dX4_shiftOf_14 : decode cX4_shiftOf 14 = .ok (.iconst 1, 1) := by decide +kernel
theorem dX4_shiftOf_15 : decode cX4_shiftOf 15 = .ok (.if_icmp .lt 21, 3) := by decide +kernel
theorem dX4_shiftOf_18 : decode cX4_shiftOf 18 = .ok (.iload_n 3, 1) := by decide +kernel
theorem dX4_shiftOf_19 : decode cX4_shiftOf 19 = .ok (.sipush 255, 3) := by decide +kernel
theorem dX4_shiftOf_22 : decode cX4_shiftOf 22 = .ok (.if_icmp .gt 14, 3) := by decide +kernel
theorem dX4_shiftOf_25 : decode cX4_shiftOf 25 = .ok (.iload_n 3, 1) := by decide +kernel
theorem dX4_shiftOf_26 : decode cX4_shiftOf 26 = .ok (.iload_n 2, 1) := by decide +kernel
theorem dX4_shiftOf_27 : decode cX4_shiftOf 27 = .ok (.ishl, 1) := by decide +kernel
theorem dX4_shiftOf_28 : decode cX4_shiftOf 28 = .ok (.iload_n 0, 1) := by decide +kernel
theorem dX4_shiftOf_29 : decode cX4_shiftOf 29 = .ok (.if_icmp .ne 7, 3) := by decide +kernel
theorem dX4_shiftOf_32 : decode cX4_shiftOf 32 = .ok (.iload_n 2, 1) := by decide +kernel
theorem dX4_shiftOf_33 : decode cX4_shiftOf 33 = .ok (.goto 4, 3) := by decide +kernel
theorem dX4_shiftOf_36 : decode cX4_shiftOf 36 = .ok (.iload_n 1, 1) := by decide +kernel
theorem dX4_shiftOf_37 : decode cX4_shiftOf 37 = .ok (.istore_n 1, 1) := by decide +kernel
theorem dX4_shiftOf_38 : decode cX4_shiftOf 38 = .ok (.iinc 2 (-1), 3) := by decide +kernel
theorem dX4_shiftOf_41 : decode cX4_shiftOf 41 = .ok (.goto (-36), 3) := by decide +kernel
theorem dX4_shiftOf_44 : decode cX4_shiftOf 44 = .ok (.iload_n 1, 1) := by decide +kernel
theorem dX4_shiftOf_45 : decode cX4_shiftOf 45 = .ok (.ireturn, 1) := by decide +kernel
theorem dX4_isLiteral_0 : decode cX4_isLiteral 0 = .ok (.iload_n 0, 1) := by decide +kernel
theorem dX4_isLiteral_1 : decode cX4_isLiteral 1 = .ok (.sipush (-256), 3) := by decide +kernel
theorem dX4_isLiteral_4 : decode cX4_isLiteral 4 = .ok (.if_icmp .lt 10, 3) := by decide +kernel
theorem dX4_isLiteral_7 : decode cX4_isLiteral 7 = .ok (.iload_n 0, 1) := by decide +kernel
theorem dX4_isLiteral_8 : decode cX4_isLiteral 8 = .ok (.sipush 255, 3) := by decide +kernel
theorem dX4_isLiteral_11 : decode cX4_isLiteral 11 = .ok (.if_icmp .le 14, 3) := by decide +kernel
theorem dX4_isLiteral_14 : decode cX4_isLiteral 14 = .ok (.iload_n 0, 1) := by decide +kernel
theorem dX4_isLiteral_15 : decode cX4_isLiteral 15 = .ok (.invokestatic 72, 3) := by decide +kernel
theorem dX4_isLiteral_18 : decode cX4_isLiteral 18 = .ok (.ifCond .ne 7, 3) := by decide +kernel
theorem dX4_isLiteral_21 : decode cX4_isLiteral 21 = .ok (.iconst 1, 1) := by decide +kernel
theorem dX4_isLiteral_22 : decode cX4_isLiteral 22 = .ok (.goto 4, 3) := by decide +kernel
theorem dX4_isLiteral_25 : decode cX4_isLiteral 25 = .ok (.iconst 0, 1) := by decide +kernel
theorem dX4_isLiteral_26 : decode cX4_isLiteral 26 = .ok (.ireturn, 1) := by decide +kernel
theorem dX4_makeLength_0 : decode cX4_makeLength 0 = .ok (.iload_n 0, 1) := by decide +kernel
theorem dX4_makeLength_1 : decode cX4_makeLength 1 = .ok (.ifCond .lt 10, 3) := by decide +kernel
theorem dX4_makeLength_4 : decode cX4_makeLength 4 = .ok (.iload_n 0, 1) := by decide +kernel
theorem dX4_makeLength_5 : decode cX4_makeLength 5 = .ok (.sipush 255, 3) := by decide +kernel
theorem dX4_makeLength_8 : decode cX4_makeLength 8 = .ok (.if_icmp .le 10, 3) := by decide +kernel
theorem dX4_makeLength_11 : decode cX4_makeLength 11 = .ok (.iload_n 0, 1) := by decide +kernel
theorem dX4_makeLength_12 : decode cX4_makeLength 12 = .ok (.invokestatic 76, 3) := by decide +kernel
theorem dX4_makeLength_15 : decode cX4_makeLength 15 = .ok (.ifCond .eq 7, 3) := by decide +kernel
theorem dX4_makeLength_18 : decode cX4_makeLength 18 = .ok (.iconst 1, 1) := by decide +kernel
theorem dX4_makeLength_19 : decode cX4_makeLength 19 = .ok (.goto 4, 3) := by decide +kernel
theorem dX4_makeLength_22 : decode cX4_makeLength 22 = .ok (.iconst 2, 1) := by decide +kernel
theorem dX4_makeLength_23 : decode cX4_makeLength 23 = .ok (.ireturn, 1) := by decide +kernel
theorem dX4_lengthOf_0 : decode cX4_lengthOf 0 = .ok (.aload_n 0, 1) := by decide +kernel
theorem dX4_lengthOf_1 : decode cX4_lengthOf 1 = .ok (.getfield 7, 3) := by decide +kernel
theorem dX4_lengthOf_4 : decode cX4_lengthOf 4 = .ok (.iload_n 1, 1) := by decide +kernel
theorem dX4_lengthOf_5 : decode cX4_lengthOf 5 = .ok (.iaload, 1) := by decide +kernel
theorem dX4_lengthOf_6 : decode cX4_lengthOf 6 = .ok (.tableswitch 199 0 6 #[42, 62, 118, 140, 199, 162, 197], 42) := by decide +kernel
theorem dX4_lengthOf_48 : decode cX4_lengthOf 48 = .ok (.aload_n 0, 1) := by decide +kernel
theorem dX4_lengthOf_49 : decode cX4_lengthOf 49 = .ok (.getfield 13, 3) := by decide +kernel
theorem dX4_lengthOf_52 : decode cX4_lengthOf 52 = .ok (.iload_n 1, 1) := by decide +kernel
theorem dX4_lengthOf_53 : decode cX4_lengthOf 53 = .ok (.iaload, 1) := by decide +kernel
theorem dX4_lengthOf_54 : decode cX4_lengthOf 54 = .ok (.invokestatic 79, 3) := by decide +kernel
theorem dX4_lengthOf_57 : decode cX4_lengthOf 57 = .ok (.aload_n 0, 1) := by decide +kernel
theorem dX4_lengthOf_58 : decode cX4_lengthOf 58 = .ok (.getfield 16, 3) := by decide +kernel
theorem dX4_lengthOf_61 : decode cX4_lengthOf 61 = .ok (.iload_n 1, 1) := by decide +kernel
theorem dX4_lengthOf_62 : decode cX4_lengthOf 62 = .ok (.iaload, 1) := by decide +kernel
theorem dX4_lengthOf_63 : decode cX4_lengthOf 63 = .ok (.invokestatic 82, 3) := by decide +kernel
theorem dX4_lengthOf_66 : decode cX4_lengthOf 66 = .ok (.iadd, 1) := by decide +kernel
theorem dX4_lengthOf_67 : decode cX4_lengthOf 67 = .ok (.ireturn, 1) := by decide +kernel
theorem dX4_lengthOf_68 : decode cX4_lengthOf 68 = .ok (.aload_n 0, 1) := by decide +kernel
theorem dX4_lengthOf_69 : decode cX4_lengthOf 69 = .ok (.getfield 13, 3) := by decide +kernel
theorem dX4_lengthOf_72 : decode cX4_lengthOf 72 = .ok (.iload_n 1, 1) := by decide +kernel
theorem dX4_lengthOf_73 : decode cX4_lengthOf 73 = .ok (.iaload, 1) := by decide +kernel
theorem dX4_lengthOf_74 : decode cX4_lengthOf 74 = .ok (.iconst 2, 1) := by decide +kernel
theorem dX4_lengthOf_75 : decode cX4_lengthOf 75 = .ok (.if_icmp .ge 37, 3) := by decide +kernel
theorem dX4_lengthOf_78 : decode cX4_lengthOf 78 = .ok (.aload_n 0, 1) := by decide +kernel
theorem dX4_lengthOf_79 : decode cX4_lengthOf 79 = .ok (.getfield 19, 3) := by decide +kernel
theorem dX4_lengthOf_82 : decode cX4_lengthOf 82 = .ok (.iload_n 1, 1) := by decide +kernel
theorem dX4_lengthOf_83 : decode cX4_lengthOf 83 = .ok (.iaload, 1) := by decide +kernel
theorem dX4_lengthOf_84 : decode cX4_lengthOf 84 = .ok (.invokestatic 82, 3) := by decide +kernel
theorem dX4_lengthOf_87 : decode cX4_lengthOf 87 = .ok (.aload_n 0, 1) := by decide +kernel
theorem dX4_lengthOf_88 : decode cX4_lengthOf 88 = .ok (.getfield 22, 3) := by decide +kernel
theorem dX4_lengthOf_91 : decode cX4_lengthOf 91 = .ok (.iload_n 1, 1) := by decide +kernel
theorem dX4_lengthOf_92 : decode cX4_lengthOf 92 = .ok (.iaload, 1) := by decide +kernel
theorem dX4_lengthOf_93 : decode cX4_lengthOf 93 = .ok (.invokestatic 82, 3) := by decide +kernel
theorem dX4_lengthOf_96 : decode cX4_lengthOf 96 = .ok (.iadd, 1) := by decide +kernel
theorem dX4_lengthOf_97 : decode cX4_lengthOf 97 = .ok (.iconst 1, 1) := by decide +kernel
theorem dX4_lengthOf_98 : decode cX4_lengthOf 98 = .ok (.iadd, 1) := by decide +kernel
theorem dX4_lengthOf_99 : decode cX4_lengthOf 99 = .ok (.aload_n 0, 1) := by decide +kernel
theorem dX4_lengthOf_100 : decode cX4_lengthOf 100 = .ok (.getfield 16, 3) := by decide +kernel
theorem dX4_lengthOf_103 : decode cX4_lengthOf 103 = .ok (.iload_n 1, 1) := by decide +kernel
theorem dX4_lengthOf_104 : decode cX4_lengthOf 104 = .ok (.iaload, 1) := by decide +kernel
theorem dX4_lengthOf_105 : decode cX4_lengthOf 105 = .ok (.invokestatic 82, 3) := by decide +kernel
theorem dX4_lengthOf_108 : decode cX4_lengthOf 108 = .ok (.iadd, 1) := by decide +kernel
theorem dX4_lengthOf_109 : decode cX4_lengthOf 109 = .ok (.goto 14, 3) := by decide +kernel
theorem dX4_lengthOf_112 : decode cX4_lengthOf 112 = .ok (.iconst 3, 1) := by decide +kernel
theorem dX4_lengthOf_113 : decode cX4_lengthOf 113 = .ok (.aload_n 0, 1) := by decide +kernel
theorem dX4_lengthOf_114 : decode cX4_lengthOf 114 = .ok (.getfield 22, 3) := by decide +kernel
theorem dX4_lengthOf_117 : decode cX4_lengthOf 117 = .ok (.iload_n 1, 1) := by decide +kernel
theorem dX4_lengthOf_118 : decode cX4_lengthOf 118 = .ok (.iaload, 1) := by decide +kernel
theorem dX4_lengthOf_119 : decode cX4_lengthOf 119 = .ok (.invokestatic 82, 3) := by decide +kernel
theorem dX4_lengthOf_122 : decode cX4_lengthOf 122 = .ok (.iadd, 1) := by decide +kernel
theorem dX4_lengthOf_123 : decode cX4_lengthOf 123 = .ok (.ireturn, 1) := by decide +kernel
theorem dX4_lengthOf_124 : decode cX4_lengthOf 124 = .ok (.aload_n 0, 1) := by decide +kernel
theorem dX4_lengthOf_125 : decode cX4_lengthOf 125 = .ok (.getfield 16, 3) := by decide +kernel
theorem dX4_lengthOf_128 : decode cX4_lengthOf 128 = .ok (.iload_n 1, 1) := by decide +kernel
theorem dX4_lengthOf_129 : decode cX4_lengthOf 129 = .ok (.iaload, 1) := by decide +kernel
theorem dX4_lengthOf_130 : decode cX4_lengthOf 130 = .ok (.invokestatic 82, 3) := by decide +kernel
theorem dX4_lengthOf_133 : decode cX4_lengthOf 133 = .ok (.iconst 4, 1) := by decide +kernel
theorem dX4_lengthOf_134 : decode cX4_lengthOf 134 = .ok (.iadd, 1) := by decide +kernel
theorem dX4_lengthOf_135 : decode cX4_lengthOf 135 = .ok (.aload_n 0, 1) := by decide +kernel
theorem dX4_lengthOf_136 : decode cX4_lengthOf 136 = .ok (.getfield 13, 3) := by decide +kernel
theorem dX4_lengthOf_139 : decode cX4_lengthOf 139 = .ok (.iload_n 1, 1) := by decide +kernel
theorem dX4_lengthOf_140 : decode cX4_lengthOf 140 = .ok (.iaload, 1) := by decide +kernel
theorem dX4_lengthOf_141 : decode cX4_lengthOf 141 = .ok (.invokestatic 82, 3) := by decide +kernel
theorem dX4_lengthOf_144 : decode cX4_lengthOf 144 = .ok (.iadd, 1) := by decide +kernel
theorem dX4_lengthOf_145 : decode cX4_lengthOf 145 = .ok (.ireturn, 1) := by decide +kernel
theorem dX4_lengthOf_146 : decode cX4_lengthOf 146 = .ok (.aload_n 0, 1) := by decide +kernel
theorem dX4_lengthOf_147 : decode cX4_lengthOf 147 = .ok (.getfield 13, 3) := by decide +kernel
theorem dX4_lengthOf_150 : decode cX4_lengthOf 150 = .ok (.iload_n 1, 1) := by decide +kernel
theorem dX4_lengthOf_151 : decode cX4_lengthOf 151 = .ok (.iaload, 1) := by decide +kernel
theorem dX4_lengthOf_152 : decode cX4_lengthOf 152 = .ok (.invokestatic 82, 3) := by decide +kernel
theorem dX4_lengthOf_155 : decode cX4_lengthOf 155 = .ok (.iconst 4, 1) := by decide +kernel
theorem dX4_lengthOf_156 : decode cX4_lengthOf 156 = .ok (.iadd, 1) := by decide +kernel
theorem dX4_lengthOf_157 : decode cX4_lengthOf 157 = .ok (.aload_n 0, 1) := by decide +kernel
theorem dX4_lengthOf_158 : decode cX4_lengthOf 158 = .ok (.getfield 16, 3) := by decide +kernel
theorem dX4_lengthOf_161 : decode cX4_lengthOf 161 = .ok (.iload_n 1, 1) := by decide +kernel
theorem dX4_lengthOf_162 : decode cX4_lengthOf 162 = .ok (.iaload, 1) := by decide +kernel
theorem dX4_lengthOf_163 : decode cX4_lengthOf 163 = .ok (.invokestatic 82, 3) := by decide +kernel
theorem dX4_lengthOf_166 : decode cX4_lengthOf 166 = .ok (.iadd, 1) := by decide +kernel
theorem dX4_lengthOf_167 : decode cX4_lengthOf 167 = .ok (.ireturn, 1) := by decide +kernel
theorem dX4_lengthOf_168 : decode cX4_lengthOf 168 = .ok (.aload_n 0, 1) := by decide +kernel
theorem dX4_lengthOf_169 : decode cX4_lengthOf 169 = .ok (.getfield 16, 3) := by decide +kernel
theorem dX4_lengthOf_172 : decode cX4_lengthOf 172 = .ok (.iload_n 1, 1) := by decide +kernel
theorem dX4_lengthOf_173 : decode cX4_lengthOf 173 = .ok (.iaload, 1) := by decide +kernel
theorem dX4_lengthOf_174 : decode cX4_lengthOf 174 = .ok (.invokestatic 82, 3) := by decide +kernel
theorem dX4_lengthOf_177 : decode cX4_lengthOf 177 = .ok (.aload_n 0, 1) := by decide +kernel
theorem dX4_lengthOf_178 : decode cX4_lengthOf 178 = .ok (.getfield 19, 3) := by decide +kernel
theorem dX4_lengthOf_181 : decode cX4_lengthOf 181 = .ok (.iload_n 1, 1) := by decide +kernel
theorem dX4_lengthOf_182 : decode cX4_lengthOf 182 = .ok (.iaload, 1) := by decide +kernel
theorem dX4_lengthOf_183 : decode cX4_lengthOf 183 = .ok (.invokestatic 82, 3) := by decide +kernel
theorem dX4_lengthOf_186 : decode cX4_lengthOf 186 = .ok (.iadd, 1) := by decide +kernel
theorem dX4_lengthOf_187 : decode cX4_lengthOf 187 = .ok (.aload_n 0, 1) := by decide +kernel
theorem dX4_lengthOf_188 : decode cX4_lengthOf 188 = .ok (.getfield 34, 3) := by decide +kernel
theorem dX4_lengthOf_191 : decode cX4_lengthOf 191 = .ok (.iload_n 1, 1) := by decide +kernel
theorem dX4_lengthOf_192 : decode cX4_lengthOf 192 = .ok (.baload, 1) := by decide +kernel
theorem dX4_lengthOf_193 : decode cX4_lengthOf 193 = .ok (.ifCond .eq 7, 3) := by decide +kernel
theorem dX4_lengthOf_196 : decode cX4_lengthOf 196 = .ok (.iconst 3, 1) := by decide +kernel
theorem dX4_lengthOf_197 : decode cX4_lengthOf 197 = .ok (.goto 4, 3) := by decide +kernel
theorem dX4_lengthOf_200 : decode cX4_lengthOf 200 = .ok (.iconst 2, 1) := by decide +kernel
theorem dX4_lengthOf_201 : decode cX4_lengthOf 201 = .ok (.iadd, 1) := by decide +kernel
theorem dX4_lengthOf_202 : decode cX4_lengthOf 202 = .ok (.ireturn, 1) := by decide +kernel
theorem dX4_lengthOf_203 : decode cX4_lengthOf 203 = .ok (.iconst 2, 1) := by decide +kernel
theorem dX4_lengthOf_204 : decode cX4_lengthOf 204 = .ok (.ireturn, 1) := by decide +kernel
theorem dX4_lengthOf_205 : decode cX4_lengthOf 205 = .ok (.iconst 1, 1) := by decide +kernel
theorem dX4_lengthOf_206 : decode cX4_lengthOf 206 = .ok (.ireturn, 1) := by decide +kernel
theorem dX4_layOut_0 : decode cX4_layOut 0 = .ok (.aload_n 0, 1) := by decide +kernel
theorem dX4_layOut_1 : decode cX4_layOut 1 = .ok (.getfield 31, 3) := by decide +kernel
theorem dX4_layOut_4 : decode cX4_layOut 4 = .ok (.iconst 0, 1) := by decide +kernel
theorem dX4_layOut_5 : decode cX4_layOut 5 = .ok (.iconst 1, 1) := by decide +kernel
theorem dX4_layOut_6 : decode cX4_layOut 6 = .ok (.iastore, 1) := by decide +kernel
theorem dX4_layOut_7 : decode cX4_layOut 7 = .ok (.iconst 0, 1) := by decide +kernel
theorem dX4_layOut_8 : decode cX4_layOut 8 = .ok (.istore_n 1, 1) := by decide +kernel
theorem dX4_layOut_9 : decode cX4_layOut 9 = .ok (.iload_n 1, 1) := by decide +kernel
theorem dX4_layOut_10 : decode cX4_layOut 10 = .ok (.aload_n 0, 1) := by decide +kernel
theorem dX4_layOut_11 : decode cX4_layOut 11 = .ok (.getfield 51, 3) := by decide +kernel
theorem dX4_layOut_14 : decode cX4_layOut 14 = .ok (.if_icmp .ge 29, 3) := by decide +kernel
theorem dX4_layOut_17 : decode cX4_layOut 17 = .ok (.aload_n 0, 1) := by decide +kernel
theorem dX4_layOut_18 : decode cX4_layOut 18 = .ok (.getfield 31, 3) := by decide +kernel
theorem dX4_layOut_21 : decode cX4_layOut 21 = .ok (.iload_n 1, 1) := by decide +kernel
theorem dX4_layOut_22 : decode cX4_layOut 22 = .ok (.iconst 1, 1) := by decide +kernel
theorem dX4_layOut_23 : decode cX4_layOut 23 = .ok (.iadd, 1) := by decide +kernel
theorem dX4_layOut_24 : decode cX4_layOut 24 = .ok (.aload_n 0, 1) := by decide +kernel
theorem dX4_layOut_25 : decode cX4_layOut 25 = .ok (.getfield 31, 3) := by decide +kernel
theorem dX4_layOut_28 : decode cX4_layOut 28 = .ok (.iload_n 1, 1) := by decide +kernel
theorem dX4_layOut_29 : decode cX4_layOut 29 = .ok (.iaload, 1) := by decide +kernel
theorem dX4_layOut_30 : decode cX4_layOut 30 = .ok (.aload_n 0, 1) := by decide +kernel
theorem dX4_layOut_31 : decode cX4_layOut 31 = .ok (.iload_n 1, 1) := by decide +kernel
theorem dX4_layOut_32 : decode cX4_layOut 32 = .ok (.invokevirtual 85, 3) := by decide +kernel
theorem dX4_layOut_35 : decode cX4_layOut 35 = .ok (.iadd, 1) := by decide +kernel
theorem dX4_layOut_36 : decode cX4_layOut 36 = .ok (.iastore, 1) := by decide +kernel
theorem dX4_layOut_37 : decode cX4_layOut 37 = .ok (.iinc 1 1, 3) := by decide +kernel
theorem dX4_layOut_40 : decode cX4_layOut 40 = .ok (.goto (-31), 3) := by decide +kernel
theorem dX4_layOut_43 : decode cX4_layOut 43 = .ok (.return_, 1) := by decide +kernel
theorem dX4_way_0 : decode cX4_way 0 = .ok (.aload_n 0, 1) := by decide +kernel
theorem dX4_way_1 : decode cX4_way 1 = .ok (.getfield 31, 3) := by decide +kernel
theorem dX4_way_4 : decode cX4_way 4 = .ok (.iload_n 2, 1) := by decide +kernel
theorem dX4_way_5 : decode cX4_way 5 = .ok (.iaload, 1) := by decide +kernel
theorem dX4_way_6 : decode cX4_way 6 = .ok (.iload_n 1, 1) := by decide +kernel
theorem dX4_way_7 : decode cX4_way 7 = .ok (.isub, 1) := by decide +kernel
theorem dX4_way_8 : decode cX4_way 8 = .ok (.iconst 2, 1) := by decide +kernel
theorem dX4_way_9 : decode cX4_way 9 = .ok (.isub, 1) := by decide +kernel
theorem dX4_way_10 : decode cX4_way 10 = .ok (.ireturn, 1) := by decide +kernel
theorem dX4_lengthen_0 : decode cX4_lengthen 0 = .ok (.iconst 0, 1) := by decide +kernel
theorem dX4_lengthen_1 : decode cX4_lengthen 1 = .ok (.istore_n 1, 1) := by decide +kernel
theorem dX4_lengthen_2 : decode cX4_lengthen 2 = .ok (.iload_n 1, 1) := by decide +kernel
theorem dX4_lengthen_3 : decode cX4_lengthen 3 = .ok (.aload_n 0, 1) := by decide +kernel
theorem dX4_lengthen_4 : decode cX4_lengthen 4 = .ok (.getfield 51, 3) := by decide +kernel
theorem dX4_lengthen_7 : decode cX4_lengthen 7 = .ok (.if_icmp .ge 16, 3) := by decide +kernel
theorem dX4_lengthen_10 : decode cX4_lengthen 10 = .ok (.aload_n 0, 1) := by decide +kernel
theorem dX4_lengthen_11 : decode cX4_lengthen 11 = .ok (.getfield 34, 3) := by decide +kernel
theorem dX4_lengthen_14 : decode cX4_lengthen 14 = .ok (.iload_n 1, 1) := by decide +kernel
theorem dX4_lengthen_15 : decode cX4_lengthen 15 = .ok (.iconst 0, 1) := by decide +kernel
theorem dX4_lengthen_16 : decode cX4_lengthen 16 = .ok (.bastore, 1) := by decide +kernel
theorem dX4_lengthen_17 : decode cX4_lengthen 17 = .ok (.iinc 1 1, 3) := by decide +kernel
theorem dX4_lengthen_20 : decode cX4_lengthen 20 = .ok (.goto (-18), 3) := by decide +kernel
theorem dX4_lengthen_23 : decode cX4_lengthen 23 = .ok (.iconst 1, 1) := by decide +kernel
theorem dX4_lengthen_24 : decode cX4_lengthen 24 = .ok (.istore_n 1, 1) := by decide +kernel
theorem dX4_lengthen_25 : decode cX4_lengthen 25 = .ok (.iload_n 1, 1) := by decide +kernel
theorem dX4_lengthen_26 : decode cX4_lengthen 26 = .ok (.ifCond .eq 107, 3) := by decide +kernel
theorem dX4_lengthen_29 : decode cX4_lengthen 29 = .ok (.iconst 0, 1) := by decide +kernel
theorem dX4_lengthen_30 : decode cX4_lengthen 30 = .ok (.istore_n 1, 1) := by decide +kernel
theorem dX4_lengthen_31 : decode cX4_lengthen 31 = .ok (.aload_n 0, 1) := by decide +kernel
theorem dX4_lengthen_32 : decode cX4_lengthen 32 = .ok (.invokevirtual 88, 3) := by decide +kernel
theorem dX4_lengthen_35 : decode cX4_lengthen 35 = .ok (.iconst 0, 1) := by decide +kernel
theorem dX4_lengthen_36 : decode cX4_lengthen 36 = .ok (.istore_n 2, 1) := by decide +kernel
theorem dX4_lengthen_37 : decode cX4_lengthen 37 = .ok (.iload_n 2, 1) := by decide +kernel
theorem dX4_lengthen_38 : decode cX4_lengthen 38 = .ok (.aload_n 0, 1) := by decide +kernel
theorem dX4_lengthen_39 : decode cX4_lengthen 39 = .ok (.getfield 51, 3) := by decide +kernel
theorem dX4_lengthen_42 : decode cX4_lengthen 42 = .ok (.if_icmp .ge 88, 3) := by decide +kernel
theorem dX4_lengthen_45 : decode cX4_lengthen 45 = .ok (.aload_n 0, 1) := by decide +kernel
theorem dX4_lengthen_46 : decode cX4_lengthen 46 = .ok (.getfield 7, 3) := by decide +kernel
theorem dX4_lengthen_49 : decode cX4_lengthen 49 = .ok (.iload_n 2, 1) := by decide +kernel
theorem dX4_lengthen_50 : decode cX4_lengthen 50 = .ok (.iaload, 1) := by decide +kernel
theorem dX4_lengthen_51 : decode cX4_lengthen 51 = .ok (.iconst 5, 1) := by decide +kernel
theorem dX4_lengthen_52 : decode cX4_lengthen 52 = .ok (.if_icmp .ne 72, 3) := by decide +kernel
theorem dX4_lengthen_55 : decode cX4_lengthen 55 = .ok (.aload_n 0, 1) := by decide +kernel
theorem dX4_lengthen_56 : decode cX4_lengthen 56 = .ok (.getfield 34, 3) := by decide +kernel
theorem dX4_lengthen_59 : decode cX4_lengthen 59 = .ok (.iload_n 2, 1) := by decide +kernel
theorem dX4_lengthen_60 : decode cX4_lengthen 60 = .ok (.baload, 1) := by decide +kernel
theorem dX4_lengthen_61 : decode cX4_lengthen 61 = .ok (.ifCond .ne 63, 3) := by decide +kernel
theorem dX4_lengthen_64 : decode cX4_lengthen 64 = .ok (.aload_n 0, 1) := by decide +kernel
theorem dX4_lengthen_65 : decode cX4_lengthen 65 = .ok (.aload_n 0, 1) := by decide +kernel
theorem dX4_lengthen_66 : decode cX4_lengthen 66 = .ok (.getfield 31, 3) := by decide +kernel
theorem dX4_lengthen_69 : decode cX4_lengthen 69 = .ok (.iload_n 2, 1) := by decide +kernel
theorem dX4_lengthen_70 : decode cX4_lengthen 70 = .ok (.iaload, 1) := by decide +kernel
theorem dX4_lengthen_71 : decode cX4_lengthen 71 = .ok (.aload_n 0, 1) := by decide +kernel
theorem dX4_lengthen_72 : decode cX4_lengthen 72 = .ok (.getfield 16, 3) := by decide +kernel
theorem dX4_lengthen_75 : decode cX4_lengthen 75 = .ok (.iload_n 2, 1) := by decide +kernel
theorem dX4_lengthen_76 : decode cX4_lengthen 76 = .ok (.iaload, 1) := by decide +kernel
theorem dX4_lengthen_77 : decode cX4_lengthen 77 = .ok (.invokestatic 82, 3) := by decide +kernel
theorem dX4_lengthen_80 : decode cX4_lengthen 80 = .ok (.iadd, 1) := by decide +kernel
theorem dX4_lengthen_81 : decode cX4_lengthen 81 = .ok (.aload_n 0, 1) := by decide +kernel
theorem dX4_lengthen_82 : decode cX4_lengthen 82 = .ok (.getfield 19, 3) := by decide +kernel
theorem dX4_lengthen_85 : decode cX4_lengthen 85 = .ok (.iload_n 2, 1) := by decide +kernel
theorem dX4_lengthen_86 : decode cX4_lengthen 86 = .ok (.iaload, 1) := by decide +kernel
theorem dX4_lengthen_87 : decode cX4_lengthen 87 = .ok (.invokestatic 82, 3) := by decide +kernel
theorem dX4_lengthen_90 : decode cX4_lengthen 90 = .ok (.iadd, 1) := by decide +kernel
theorem dX4_lengthen_91 : decode cX4_lengthen 91 = .ok (.iconst 1, 1) := by decide +kernel
theorem dX4_lengthen_92 : decode cX4_lengthen 92 = .ok (.iadd, 1) := by decide +kernel
theorem dX4_lengthen_93 : decode cX4_lengthen 93 = .ok (.aload_n 0, 1) := by decide +kernel
theorem dX4_lengthen_94 : decode cX4_lengthen 94 = .ok (.getfield 22, 3) := by decide +kernel
theorem dX4_lengthen_97 : decode cX4_lengthen 97 = .ok (.iload_n 2, 1) := by decide +kernel
theorem dX4_lengthen_98 : decode cX4_lengthen 98 = .ok (.iaload, 1) := by decide +kernel
theorem dX4_lengthen_99 : decode cX4_lengthen 99 = .ok (.invokevirtual 91, 3) := by decide +kernel
theorem dX4_lengthen_102 : decode cX4_lengthen 102 = .ok (.istore_n 3, 1) := by decide +kernel
theorem dX4_lengthen_103 : decode cX4_lengthen 103 = .ok (.iload_n 3, 1) := by decide +kernel
theorem dX4_lengthen_104 : decode cX4_lengthen 104 = .ok (.bipush (-128), 2) := by decide +kernel
theorem dX4_lengthen_106 : decode cX4_lengthen 106 = .ok (.if_icmp .lt 9, 3) := by decide +kernel
theorem dX4_lengthen_109 : decode cX4_lengthen 109 = .ok (.iload_n 3, 1) := by decide +kernel
theorem dX4_lengthen_110 : decode cX4_lengthen 110 = .ok (.bipush 127, 2) := by decide +kernel
theorem dX4_lengthen_112 : decode cX4_lengthen 112 = .ok (.if_icmp .le 12, 3) := by decide +kernel
theorem dX4_lengthen_115 : decode cX4_lengthen 115 = .ok (.aload_n 0, 1) := by decide +kernel
theorem dX4_lengthen_116 : decode cX4_lengthen 116 = .ok (.getfield 34, 3) := by decide +kernel
theorem dX4_lengthen_119 : decode cX4_lengthen 119 = .ok (.iload_n 2, 1) := by decide +kernel
theorem dX4_lengthen_120 : decode cX4_lengthen 120 = .ok (.iconst 1, 1) := by decide +kernel
theorem dX4_lengthen_121 : decode cX4_lengthen 121 = .ok (.bastore, 1) := by decide +kernel
theorem dX4_lengthen_122 : decode cX4_lengthen 122 = .ok (.iconst 1, 1) := by decide +kernel
theorem dX4_lengthen_123 : decode cX4_lengthen 123 = .ok (.istore_n 1, 1) := by decide +kernel
theorem dX4_lengthen_124 : decode cX4_lengthen 124 = .ok (.iinc 2 1, 3) := by decide +kernel
theorem dX4_lengthen_127 : decode cX4_lengthen 127 = .ok (.goto (-90), 3) := by decide +kernel
theorem dX4_lengthen_130 : decode cX4_lengthen 130 = .ok (.goto (-105), 3) := by decide +kernel
theorem dX4_lengthen_133 : decode cX4_lengthen 133 = .ok (.return_, 1) := by decide +kernel
theorem dX4_emit_0 : decode cX4_emit 0 = .ok (.aload_n 0, 1) := by decide +kernel
theorem dX4_emit_1 : decode cX4_emit 1 = .ok (.getfield 28, 3) := by decide +kernel
theorem dX4_emit_4 : decode cX4_emit 4 = .ok (.aload_n 0, 1) := by decide +kernel
theorem dX4_emit_5 : decode cX4_emit 5 = .ok (.getfield 95, 3) := by decide +kernel
theorem dX4_emit_8 : decode cX4_emit 8 = .ok (.iload_n 1, 1) := by decide +kernel
theorem dX4_emit_9 : decode cX4_emit 9 = .ok (.iastore, 1) := by decide +kernel
theorem dX4_emit_10 : decode cX4_emit 10 = .ok (.aload_n 0, 1) := by decide +kernel
theorem dX4_emit_11 : decode cX4_emit 11 = .ok (.dup, 1) := by decide +kernel
theorem dX4_emit_12 : decode cX4_emit 12 = .ok (.getfield 95, 3) := by decide +kernel
theorem dX4_emit_15 : decode cX4_emit 15 = .ok (.iconst 1, 1) := by decide +kernel
theorem dX4_emit_16 : decode cX4_emit 16 = .ok (.iadd, 1) := by decide +kernel
theorem dX4_emit_17 : decode cX4_emit 17 = .ok (.putfield 95, 3) := by decide +kernel
theorem dX4_emit_20 : decode cX4_emit 20 = .ok (.return_, 1) := by decide +kernel
theorem dX4_fetch_0 : decode cX4_fetch 0 = .ok (.iload_n 1, 1) := by decide +kernel
theorem dX4_fetch_1 : decode cX4_fetch 1 = .ok (.iconst 4, 1) := by decide +kernel
theorem dX4_fetch_2 : decode cX4_fetch 2 = .ok (.if_icmp .ge 7, 3) := by decide +kernel
theorem dX4_fetch_5 : decode cX4_fetch 5 = .ok (.iconst 4, 1) := by decide +kernel
theorem dX4_fetch_6 : decode cX4_fetch 6 = .ok (.iload_n 1, 1) := by decide +kernel
theorem dX4_fetch_7 : decode cX4_fetch 7 = .ok (.iadd, 1) := by decide +kernel
theorem dX4_fetch_8 : decode cX4_fetch 8 = .ok (.ireturn, 1) := by decide +kernel
theorem dX4_fetch_9 : decode cX4_fetch 9 = .ok (.aload_n 0, 1) := by decide +kernel
theorem dX4_fetch_10 : decode cX4_fetch 10 = .ok (.ldc 98, 2) := by decide +kernel
theorem dX4_fetch_12 : decode cX4_fetch 12 = .ok (.sipush 256, 3) := by decide +kernel
theorem dX4_fetch_15 : decode cX4_fetch 15 = .ok (.iload_n 2, 1) := by decide +kernel
theorem dX4_fetch_16 : decode cX4_fetch 16 = .ok (.imul, 1) := by decide +kernel
theorem dX4_fetch_17 : decode cX4_fetch 17 = .ok (.iadd, 1) := by decide +kernel
theorem dX4_fetch_18 : decode cX4_fetch 18 = .ok (.iload_n 1, 1) := by decide +kernel
theorem dX4_fetch_19 : decode cX4_fetch 19 = .ok (.iadd, 1) := by decide +kernel
theorem dX4_fetch_20 : decode cX4_fetch 20 = .ok (.iconst 4, 1) := by decide +kernel
theorem dX4_fetch_21 : decode cX4_fetch 21 = .ok (.isub, 1) := by decide +kernel
theorem dX4_fetch_22 : decode cX4_fetch 22 = .ok (.invokevirtual 99, 3) := by decide +kernel
theorem dX4_fetch_25 : decode cX4_fetch 25 = .ok (.iload_n 2, 1) := by decide +kernel
theorem dX4_fetch_26 : decode cX4_fetch 26 = .ok (.ireturn, 1) := by decide +kernel
theorem dX4_target_0 : decode cX4_target 0 = .ok (.iload_n 0, 1) := by decide +kernel
theorem dX4_target_1 : decode cX4_target 1 = .ok (.iconst 4, 1) := by decide +kernel
theorem dX4_target_2 : decode cX4_target 2 = .ok (.if_icmp .ge 9, 3) := by decide +kernel
theorem dX4_target_5 : decode cX4_target 5 = .ok (.iconst 4, 1) := by decide +kernel
theorem dX4_target_6 : decode cX4_target 6 = .ok (.iload_n 0, 1) := by decide +kernel
theorem dX4_target_7 : decode cX4_target 7 = .ok (.iadd, 1) := by decide +kernel
theorem dX4_target_8 : decode cX4_target 8 = .ok (.goto 4, 3) := by decide +kernel
theorem dX4_target_11 : decode cX4_target 11 = .ok (.iconst 0, 1) := by decide +kernel
theorem dX4_target_12 : decode cX4_target 12 = .ok (.ireturn, 1) := by decide +kernel
theorem dX4_keep_0 : decode cX4_keep 0 = .ok (.iload_n 1, 1) := by decide +kernel
theorem dX4_keep_1 : decode cX4_keep 1 = .ok (.iconst 3, 1) := by decide +kernel
theorem dX4_keep_2 : decode cX4_keep 2 = .ok (.if_icmp .le 13, 3) := by decide +kernel
theorem dX4_keep_5 : decode cX4_keep 5 = .ok (.aload_n 0, 1) := by decide +kernel
theorem dX4_keep_6 : decode cX4_keep 6 = .ok (.ldc 103, 2) := by decide +kernel
theorem dX4_keep_8 : decode cX4_keep 8 = .ok (.iload_n 1, 1) := by decide +kernel
theorem dX4_keep_9 : decode cX4_keep 9 = .ok (.iadd, 1) := by decide +kernel
theorem dX4_keep_10 : decode cX4_keep 10 = .ok (.iconst 4, 1) := by decide +kernel
theorem dX4_keep_11 : decode cX4_keep 11 = .ok (.isub, 1) := by decide +kernel
theorem dX4_keep_12 : decode cX4_keep 12 = .ok (.invokevirtual 99, 3) := by decide +kernel
theorem dX4_keep_15 : decode cX4_keep 15 = .ok (.return_, 1) := by decide +kernel
theorem dX4_literal_0 : decode cX4_literal 0 = .ok (.iconst 0, 1) := by decide +kernel
theorem dX4_literal_1 : decode cX4_literal 1 = .ok (.istore_n 3, 1) := by decide +kernel
theorem dX4_literal_2 : decode cX4_literal 2 = .ok (.iload_n 3, 1) := by decide +kernel
theorem dX4_literal_3 : decode cX4_literal 3 = .ok (.aload_n 0, 1) := by decide +kernel
theorem dX4_literal_4 : decode cX4_literal 4 = .ok (.getfield 104, 3) := by decide +kernel
theorem dX4_literal_7 : decode cX4_literal 7 = .ok (.if_icmp .ge 19, 3) := by decide +kernel
theorem dX4_literal_10 : decode cX4_literal 10 = .ok (.aload_n 0, 1) := by decide +kernel
theorem dX4_literal_11 : decode cX4_literal 11 = .ok (.getfield 38, 3) := by decide +kernel
theorem dX4_literal_14 : decode cX4_literal 14 = .ok (.iload_n 3, 1) := by decide +kernel
theorem dX4_literal_15 : decode cX4_literal 15 = .ok (.iaload, 1) := by decide +kernel
theorem dX4_literal_16 : decode cX4_literal 16 = .ok (.iload_n 2, 1) := by decide +kernel
theorem dX4_literal_17 : decode cX4_literal 17 = .ok (.if_icmp .eq 9, 3) := by decide +kernel
theorem dX4_literal_20 : decode cX4_literal 20 = .ok (.iinc 3 1, 3) := by decide +kernel
theorem dX4_literal_23 : decode cX4_literal 23 = .ok (.goto (-21), 3) := by decide +kernel
theorem dX4_literal_26 : decode cX4_literal 26 = .ok (.aload_n 0, 1) := by decide +kernel
theorem dX4_literal_27 : decode cX4_literal 27 = .ok (.getfield 38, 3) := by decide +kernel
theorem dX4_literal_30 : decode cX4_literal 30 = .ok (.iload_n 3, 1) := by decide +kernel
theorem dX4_literal_31 : decode cX4_literal 31 = .ok (.iload_n 2, 1) := by decide +kernel
theorem dX4_literal_32 : decode cX4_literal 32 = .ok (.iastore, 1) := by decide +kernel
theorem dX4_literal_33 : decode cX4_literal 33 = .ok (.aload_n 0, 1) := by decide +kernel
theorem dX4_literal_34 : decode cX4_literal 34 = .ok (.iload_n 3, 1) := by decide +kernel
theorem dX4_literal_35 : decode cX4_literal 35 = .ok (.aload_n 0, 1) := by decide +kernel
theorem dX4_literal_36 : decode cX4_literal 36 = .ok (.getfield 104, 3) := by decide +kernel
theorem dX4_literal_39 : decode cX4_literal 39 = .ok (.if_icmp .ne 12, 3) := by decide +kernel
theorem dX4_literal_42 : decode cX4_literal 42 = .ok (.aload_n 0, 1) := by decide +kernel
theorem dX4_literal_43 : decode cX4_literal 43 = .ok (.getfield 104, 3) := by decide +kernel
theorem dX4_literal_46 : decode cX4_literal 46 = .ok (.iconst 1, 1) := by decide +kernel
theorem dX4_literal_47 : decode cX4_literal 47 = .ok (.iadd, 1) := by decide +kernel
theorem dX4_literal_48 : decode cX4_literal 48 = .ok (.goto 7, 3) := by decide +kernel
theorem dX4_literal_51 : decode cX4_literal 51 = .ok (.aload_n 0, 1) := by decide +kernel
theorem dX4_literal_52 : decode cX4_literal 52 = .ok (.getfield 104, 3) := by decide +kernel
theorem dX4_literal_55 : decode cX4_literal 55 = .ok (.putfield 104, 3) := by decide +kernel
theorem dX4_literal_58 : decode cX4_literal 58 = .ok (.iconst 2, 1) := by decide +kernel
theorem dX4_literal_59 : decode cX4_literal 59 = .ok (.aload_n 0, 1) := by decide +kernel
theorem dX4_literal_60 : decode cX4_literal 60 = .ok (.getfield 95, 3) := by decide +kernel
theorem dX4_literal_63 : decode cX4_literal 63 = .ok (.imul, 1) := by decide +kernel
theorem dX4_literal_64 : decode cX4_literal 64 = .ok (.iconst 4, 1) := by decide +kernel
theorem dX4_literal_65 : decode cX4_literal 65 = .ok (.iadd, 1) := by decide +kernel
theorem dX4_literal_66 : decode cX4_literal 66 = .ok (.istore 4, 2) := by decide +kernel
theorem dX4_literal_68 : decode cX4_literal 68 = .ok (.iload 4, 2) := by decide +kernel
theorem dX4_literal_70 : decode cX4_literal 70 = .ok (.iconst 4, 1) := by decide +kernel
theorem dX4_literal_71 : decode cX4_literal 71 = .ok (.irem, 1) := by decide +kernel
theorem dX4_literal_72 : decode cX4_literal 72 = .ok (.ifCond .ne 8, 3) := by decide +kernel
theorem dX4_literal_75 : decode cX4_literal 75 = .ok (.iload 4, 2) := by decide +kernel
theorem dX4_literal_77 : decode cX4_literal 77 = .ok (.goto 7, 3) := by decide +kernel
theorem dX4_literal_80 : decode cX4_literal 80 = .ok (.iload 4, 2) := by decide +kernel
theorem dX4_literal_82 : decode cX4_literal 82 = .ok (.iconst 2, 1) := by decide +kernel
theorem dX4_literal_83 : decode cX4_literal 83 = .ok (.isub, 1) := by decide +kernel
theorem dX4_literal_84 : decode cX4_literal 84 = .ok (.istore 4, 2) := by decide +kernel
theorem dX4_literal_86 : decode cX4_literal 86 = .ok (.aload_n 0, 1) := by decide +kernel
theorem dX4_literal_87 : decode cX4_literal 87 = .ok (.sipush 18432, 3) := by decide +kernel
theorem dX4_literal_90 : decode cX4_literal 90 = .ok (.sipush 256, 3) := by decide +kernel
theorem dX4_literal_93 : decode cX4_literal 93 = .ok (.iload_n 1, 1) := by decide +kernel
theorem dX4_literal_94 : decode cX4_literal 94 = .ok (.imul, 1) := by decide +kernel
theorem dX4_literal_95 : decode cX4_literal 95 = .ok (.iadd, 1) := by decide +kernel
theorem dX4_literal_96 : decode cX4_literal 96 = .ok (.iconst 2, 1) := by decide +kernel
theorem dX4_literal_97 : decode cX4_literal 97 = .ok (.aload_n 0, 1) := by decide +kernel
theorem dX4_literal_98 : decode cX4_literal 98 = .ok (.getfield 107, 3) := by decide +kernel
theorem dX4_literal_101 : decode cX4_literal 101 = .ok (.imul, 1) := by decide +kernel
theorem dX4_literal_102 : decode cX4_literal 102 = .ok (.iconst 4, 1) := by decide +kernel
theorem dX4_literal_103 : decode cX4_literal 103 = .ok (.iload_n 3, 1) := by decide +kernel
theorem dX4_literal_104 : decode cX4_literal 104 = .ok (.imul, 1) := by decide +kernel
theorem dX4_literal_105 : decode cX4_literal 105 = .ok (.iadd, 1) := by decide +kernel
theorem dX4_literal_106 : decode cX4_literal 106 = .ok (.iload 4, 2) := by decide +kernel
theorem dX4_literal_108 : decode cX4_literal 108 = .ok (.isub, 1) := by decide +kernel
theorem dX4_literal_109 : decode cX4_literal 109 = .ok (.iconst 4, 1) := by decide +kernel
theorem dX4_literal_110 : decode cX4_literal 110 = .ok (.idiv, 1) := by decide +kernel
theorem dX4_literal_111 : decode cX4_literal 111 = .ok (.iadd, 1) := by decide +kernel
theorem dX4_literal_112 : decode cX4_literal 112 = .ok (.invokevirtual 99, 3) := by decide +kernel
theorem dX4_literal_115 : decode cX4_literal 115 = .ok (.return_, 1) := by decide +kernel
theorem dX4_make_0 : decode cX4_make 0 = .ok (.iload_n 2, 1) := by decide +kernel
theorem dX4_make_1 : decode cX4_make 1 = .ok (.invokestatic 72, 3) := by decide +kernel
theorem dX4_make_4 : decode cX4_make 4 = .ok (.istore_n 3, 1) := by decide +kernel
theorem dX4_make_5 : decode cX4_make 5 = .ok (.iload_n 2, 1) := by decide +kernel
theorem dX4_make_6 : decode cX4_make 6 = .ok (.ifCond .lt 28, 3) := by decide +kernel
theorem dX4_make_9 : decode cX4_make 9 = .ok (.iload_n 2, 1) := by decide +kernel
theorem dX4_make_10 : decode cX4_make 10 = .ok (.sipush 255, 3) := by decide +kernel
theorem dX4_make_13 : decode cX4_make 13 = .ok (.if_icmp .gt 21, 3) := by decide +kernel
theorem dX4_make_16 : decode cX4_make 16 = .ok (.aload_n 0, 1) := by decide +kernel
theorem dX4_make_17 : decode cX4_make 17 = .ok (.sipush 8192, 3) := by decide +kernel
theorem dX4_make_20 : decode cX4_make 20 = .ok (.sipush 256, 3) := by decide +kernel
theorem dX4_make_23 : decode cX4_make 23 = .ok (.iload_n 1, 1) := by decide +kernel
theorem dX4_make_24 : decode cX4_make 24 = .ok (.imul, 1) := by decide +kernel
theorem dX4_make_25 : decode cX4_make 25 = .ok (.iadd, 1) := by decide +kernel
theorem dX4_make_26 : decode cX4_make 26 = .ok (.iload_n 2, 1) := by decide +kernel
theorem dX4_make_27 : decode cX4_make 27 = .ok (.iadd, 1) := by decide +kernel
theorem dX4_make_28 : decode cX4_make 28 = .ok (.invokevirtual 99, 3) := by decide +kernel
theorem dX4_make_31 : decode cX4_make 31 = .ok (.goto 89, 3) := by decide +kernel
theorem dX4_make_34 : decode cX4_make 34 = .ok (.iload_n 2, 1) := by decide +kernel
theorem dX4_make_35 : decode cX4_make 35 = .ok (.ifCond .ge 42, 3) := by decide +kernel
theorem dX4_make_38 : decode cX4_make 38 = .ok (.iload_n 2, 1) := by decide +kernel
theorem dX4_make_39 : decode cX4_make 39 = .ok (.sipush (-256), 3) := by decide +kernel
theorem dX4_make_42 : decode cX4_make 42 = .ok (.if_icmp .lt 35, 3) := by decide +kernel
theorem dX4_make_45 : decode cX4_make 45 = .ok (.aload_n 0, 1) := by decide +kernel
theorem dX4_make_46 : decode cX4_make 46 = .ok (.sipush 8192, 3) := by decide +kernel
theorem dX4_make_49 : decode cX4_make 49 = .ok (.sipush 256, 3) := by decide +kernel
theorem dX4_make_52 : decode cX4_make 52 = .ok (.iload_n 1, 1) := by decide +kernel
theorem dX4_make_53 : decode cX4_make 53 = .ok (.imul, 1) := by decide +kernel
theorem dX4_make_54 : decode cX4_make 54 = .ok (.iadd, 1) := by decide +kernel
theorem dX4_make_55 : decode cX4_make 55 = .ok (.iconst 1, 1) := by decide +kernel
theorem dX4_make_56 : decode cX4_make 56 = .ok (.isub, 1) := by decide +kernel
theorem dX4_make_57 : decode cX4_make 57 = .ok (.iload_n 2, 1) := by decide +kernel
theorem dX4_make_58 : decode cX4_make 58 = .ok (.isub, 1) := by decide +kernel
theorem dX4_make_59 : decode cX4_make 59 = .ok (.invokevirtual 99, 3) := by decide +kernel
theorem dX4_make_62 : decode cX4_make 62 = .ok (.aload_n 0, 1) := by decide +kernel
theorem dX4_make_63 : decode cX4_make 63 = .ok (.sipush 17344, 3) := by decide +kernel
theorem dX4_make_66 : decode cX4_make 66 = .ok (.bipush 9, 2) := by decide +kernel
theorem dX4_make_68 : decode cX4_make 68 = .ok (.iload_n 1, 1) := by decide +kernel
theorem dX4_make_69 : decode cX4_make 69 = .ok (.imul, 1) := by decide +kernel
theorem dX4_make_70 : decode cX4_make 70 = .ok (.iadd, 1) := by decide +kernel
theorem dX4_make_71 : decode cX4_make 71 = .ok (.invokevirtual 99, 3) := by decide +kernel
theorem dX4_make_74 : decode cX4_make 74 = .ok (.goto 46, 3) := by decide +kernel
theorem dX4_make_77 : decode cX4_make 77 = .ok (.iload_n 3, 1) := by decide +kernel
theorem dX4_make_78 : decode cX4_make 78 = .ok (.ifCond .le 36, 3) := by decide +kernel
theorem dX4_make_81 : decode cX4_make 81 = .ok (.aload_n 0, 1) := by decide +kernel
theorem dX4_make_82 : decode cX4_make 82 = .ok (.sipush 8192, 3) := by decide +kernel
theorem dX4_make_85 : decode cX4_make 85 = .ok (.sipush 256, 3) := by decide +kernel
theorem dX4_make_88 : decode cX4_make 88 = .ok (.iload_n 1, 1) := by decide +kernel
theorem dX4_make_89 : decode cX4_make 89 = .ok (.imul, 1) := by decide +kernel
theorem dX4_make_90 : decode cX4_make 90 = .ok (.iadd, 1) := by decide +kernel
theorem dX4_make_91 : decode cX4_make 91 = .ok (.iload_n 2, 1) := by decide +kernel
theorem dX4_make_92 : decode cX4_make 92 = .ok (.iload_n 3, 1) := by decide +kernel
theorem dX4_make_93 : decode cX4_make 93 = .ok (.iushr, 1) := by decide +kernel
theorem dX4_make_94 : decode cX4_make 94 = .ok (.iadd, 1) := by decide +kernel
theorem dX4_make_95 : decode cX4_make 95 = .ok (.invokevirtual 99, 3) := by decide +kernel
theorem dX4_make_98 : decode cX4_make 98 = .ok (.aload_n 0, 1) := by decide +kernel
theorem dX4_make_99 : decode cX4_make 99 = .ok (.bipush 64, 2) := by decide +kernel
theorem dX4_make_101 : decode cX4_make 101 = .ok (.iload_n 3, 1) := by decide +kernel
theorem dX4_make_102 : decode cX4_make 102 = .ok (.imul, 1) := by decide +kernel
theorem dX4_make_103 : decode cX4_make 103 = .ok (.bipush 9, 2) := by decide +kernel
theorem dX4_make_105 : decode cX4_make 105 = .ok (.iload_n 1, 1) := by decide +kernel
theorem dX4_make_106 : decode cX4_make 106 = .ok (.imul, 1) := by decide +kernel
theorem dX4_make_107 : decode cX4_make 107 = .ok (.iadd, 1) := by decide +kernel
theorem dX4_make_108 : decode cX4_make 108 = .ok (.invokevirtual 99, 3) := by decide +kernel
theorem dX4_make_111 : decode cX4_make 111 = .ok (.goto 9, 3) := by decide +kernel
theorem dX4_make_114 : decode cX4_make 114 = .ok (.aload_n 0, 1) := by decide +kernel
theorem dX4_make_115 : decode cX4_make 115 = .ok (.iload_n 1, 1) := by decide +kernel
theorem dX4_make_116 : decode cX4_make 116 = .ok (.iload_n 2, 1) := by decide +kernel
theorem dX4_make_117 : decode cX4_make 117 = .ok (.invokevirtual 110, 3) := by decide +kernel
theorem dX4_make_120 : decode cX4_make 120 = .ok (.return_, 1) := by decide +kernel
theorem dX4_codeOf_0 : decode cX4_codeOf 0 = .ok (.iload_n 0, 1) := by decide +kernel
theorem dX4_codeOf_1 : decode cX4_codeOf 1 = .ok (.tableswitch 55 2 6 #[35, 39, 43, 47, 51], 35) := by decide +kernel
theorem dX4_codeOf_36 : decode cX4_codeOf 36 = .ok (.sipush 17216, 3) := by decide +kernel
theorem dX4_codeOf_39 : decode cX4_codeOf 39 = .ok (.ireturn, 1) := by decide +kernel
theorem dX4_codeOf_40 : decode cX4_codeOf 40 = .ok (.sipush 16384, 3) := by decide +kernel
theorem dX4_codeOf_43 : decode cX4_codeOf 43 = .ok (.ireturn, 1) := by decide +kernel
theorem dX4_codeOf_44 : decode cX4_codeOf 44 = .ok (.sipush 17152, 3) := by decide +kernel
theorem dX4_codeOf_47 : decode cX4_codeOf 47 = .ok (.ireturn, 1) := by decide +kernel
theorem dX4_codeOf_48 : decode cX4_codeOf 48 = .ok (.sipush 16448, 3) := by decide +kernel
theorem dX4_codeOf_51 : decode cX4_codeOf 51 = .ok (.ireturn, 1) := by decide +kernel
theorem dX4_codeOf_52 : decode cX4_codeOf 52 = .ok (.sipush 16512, 3) := by decide +kernel
theorem dX4_codeOf_55 : decode cX4_codeOf 55 = .ok (.ireturn, 1) := by decide +kernel
theorem dX4_codeOf_56 : decode cX4_codeOf 56 = .ok (.sipush 16576, 3) := by decide +kernel
theorem dX4_codeOf_59 : decode cX4_codeOf 59 = .ok (.ireturn, 1) := by decide +kernel
theorem dX4_copy_0 : decode cX4_copy 0 = .ok (.iload_n 1, 1) := by decide +kernel
theorem dX4_copy_1 : decode cX4_copy 1 = .ok (.iconst 4, 1) := by decide +kernel
theorem dX4_copy_2 : decode cX4_copy 2 = .ok (.if_icmp .ge 16, 3) := by decide +kernel
theorem dX4_copy_5 : decode cX4_copy 5 = .ok (.aload_n 0, 1) := by decide +kernel
theorem dX4_copy_6 : decode cX4_copy 6 = .ok (.bipush 8, 2) := by decide +kernel
theorem dX4_copy_8 : decode cX4_copy 8 = .ok (.iconst 4, 1) := by decide +kernel
theorem dX4_copy_9 : decode cX4_copy 9 = .ok (.iload_n 1, 1) := by decide +kernel
theorem dX4_copy_10 : decode cX4_copy 10 = .ok (.iadd, 1) := by decide +kernel
theorem dX4_copy_11 : decode cX4_copy 11 = .ok (.imul, 1) := by decide +kernel
theorem dX4_copy_12 : decode cX4_copy 12 = .ok (.invokevirtual 99, 3) := by decide +kernel
theorem dX4_copy_15 : decode cX4_copy 15 = .ok (.goto 10, 3) := by decide +kernel
theorem dX4_copy_18 : decode cX4_copy 18 = .ok (.aload_n 0, 1) := by decide +kernel
theorem dX4_copy_19 : decode cX4_copy 19 = .ok (.iload_n 1, 1) := by decide +kernel
theorem dX4_copy_20 : decode cX4_copy 20 = .ok (.iconst 0, 1) := by decide +kernel
theorem dX4_copy_21 : decode cX4_copy 21 = .ok (.invokevirtual 114, 3) := by decide +kernel
theorem dX4_copy_24 : decode cX4_copy 24 = .ok (.pop, 1) := by decide +kernel
theorem dX4_copy_25 : decode cX4_copy 25 = .ok (.return_, 1) := by decide +kernel
theorem dX4_emitCompute_0 : decode cX4_emitCompute 0 = .ok (.iload_n 1, 1) := by decide +kernel
theorem dX4_emitCompute_1 : decode cX4_emitCompute 1 = .ok (.iconst 2, 1) := by decide +kernel
theorem dX4_emitCompute_2 : decode cX4_emitCompute 2 = .ok (.if_icmp .ge 62, 3) := by decide +kernel
theorem dX4_emitCompute_5 : decode cX4_emitCompute 5 = .ok (.aload_n 0, 1) := by decide +kernel
theorem dX4_emitCompute_6 : decode cX4_emitCompute 6 = .ok (.iload_n 3, 1) := by decide +kernel
theorem dX4_emitCompute_7 : decode cX4_emitCompute 7 = .ok (.iconst 0, 1) := by decide +kernel
theorem dX4_emitCompute_8 : decode cX4_emitCompute 8 = .ok (.invokevirtual 114, 3) := by decide +kernel
theorem dX4_emitCompute_11 : decode cX4_emitCompute 11 = .ok (.istore 5, 2) := by decide +kernel
theorem dX4_emitCompute_13 : decode cX4_emitCompute 13 = .ok (.aload_n 0, 1) := by decide +kernel
theorem dX4_emitCompute_14 : decode cX4_emitCompute 14 = .ok (.iload 4, 2) := by decide +kernel
theorem dX4_emitCompute_16 : decode cX4_emitCompute 16 = .ok (.iconst 1, 1) := by decide +kernel
theorem dX4_emitCompute_17 : decode cX4_emitCompute 17 = .ok (.invokevirtual 114, 3) := by decide +kernel
theorem dX4_emitCompute_20 : decode cX4_emitCompute 20 = .ok (.istore 6, 2) := by decide +kernel
theorem dX4_emitCompute_22 : decode cX4_emitCompute 22 = .ok (.aload_n 0, 1) := by decide +kernel
theorem dX4_emitCompute_23 : decode cX4_emitCompute 23 = .ok (.iload_n 1, 1) := by decide +kernel
theorem dX4_emitCompute_24 : decode cX4_emitCompute 24 = .ok (.ifCond .ne 9, 3) := by decide +kernel
theorem dX4_emitCompute_27 : decode cX4_emitCompute 27 = .ok (.sipush 6144, 3) := by decide +kernel
theorem dX4_emitCompute_30 : decode cX4_emitCompute 30 = .ok (.goto 6, 3) := by decide +kernel
theorem dX4_emitCompute_33 : decode cX4_emitCompute 33 = .ok (.sipush 6656, 3) := by decide +kernel
theorem dX4_emitCompute_36 : decode cX4_emitCompute 36 = .ok (.bipush 64, 2) := by decide +kernel
theorem dX4_emitCompute_38 : decode cX4_emitCompute 38 = .ok (.iload 6, 2) := by decide +kernel
theorem dX4_emitCompute_40 : decode cX4_emitCompute 40 = .ok (.imul, 1) := by decide +kernel
theorem dX4_emitCompute_41 : decode cX4_emitCompute 41 = .ok (.iadd, 1) := by decide +kernel
theorem dX4_emitCompute_42 : decode cX4_emitCompute 42 = .ok (.bipush 8, 2) := by decide +kernel
theorem dX4_emitCompute_44 : decode cX4_emitCompute 44 = .ok (.iload 5, 2) := by decide +kernel
theorem dX4_emitCompute_46 : decode cX4_emitCompute 46 = .ok (.imul, 1) := by decide +kernel
theorem dX4_emitCompute_47 : decode cX4_emitCompute 47 = .ok (.iadd, 1) := by decide +kernel
theorem dX4_emitCompute_48 : decode cX4_emitCompute 48 = .ok (.iload_n 2, 1) := by decide +kernel
theorem dX4_emitCompute_49 : decode cX4_emitCompute 49 = .ok (.invokestatic 117, 3) := by decide +kernel
theorem dX4_emitCompute_52 : decode cX4_emitCompute 52 = .ok (.iadd, 1) := by decide +kernel
theorem dX4_emitCompute_53 : decode cX4_emitCompute 53 = .ok (.invokevirtual 99, 3) := by decide +kernel
theorem dX4_emitCompute_56 : decode cX4_emitCompute 56 = .ok (.aload_n 0, 1) := by decide +kernel
theorem dX4_emitCompute_57 : decode cX4_emitCompute 57 = .ok (.iload_n 2, 1) := by decide +kernel
theorem dX4_emitCompute_58 : decode cX4_emitCompute 58 = .ok (.invokevirtual 120, 3) := by decide +kernel
theorem dX4_emitCompute_61 : decode cX4_emitCompute 61 = .ok (.goto 51, 3) := by decide +kernel
theorem dX4_emitCompute_64 : decode cX4_emitCompute 64 = .ok (.aload_n 0, 1) := by decide +kernel
theorem dX4_emitCompute_65 : decode cX4_emitCompute 65 = .ok (.iload_n 3, 1) := by decide +kernel
theorem dX4_emitCompute_66 : decode cX4_emitCompute 66 = .ok (.invokevirtual 123, 3) := by decide +kernel
theorem dX4_emitCompute_69 : decode cX4_emitCompute 69 = .ok (.aload_n 0, 1) := by decide +kernel
theorem dX4_emitCompute_70 : decode cX4_emitCompute 70 = .ok (.iload 4, 2) := by decide +kernel
theorem dX4_emitCompute_72 : decode cX4_emitCompute 72 = .ok (.iconst 1, 1) := by decide +kernel
theorem dX4_emitCompute_73 : decode cX4_emitCompute 73 = .ok (.invokevirtual 114, 3) := by decide +kernel
theorem dX4_emitCompute_76 : decode cX4_emitCompute 76 = .ok (.istore 5, 2) := by decide +kernel
theorem dX4_emitCompute_78 : decode cX4_emitCompute 78 = .ok (.aload_n 0, 1) := by decide +kernel
theorem dX4_emitCompute_79 : decode cX4_emitCompute 79 = .ok (.iload_n 1, 1) := by decide +kernel
theorem dX4_emitCompute_80 : decode cX4_emitCompute 80 = .ok (.invokestatic 126, 3) := by decide +kernel
theorem dX4_emitCompute_83 : decode cX4_emitCompute 83 = .ok (.bipush 8, 2) := by decide +kernel
theorem dX4_emitCompute_85 : decode cX4_emitCompute 85 = .ok (.iload 5, 2) := by decide +kernel
theorem dX4_emitCompute_87 : decode cX4_emitCompute 87 = .ok (.imul, 1) := by decide +kernel
theorem dX4_emitCompute_88 : decode cX4_emitCompute 88 = .ok (.iadd, 1) := by decide +kernel
theorem dX4_emitCompute_89 : decode cX4_emitCompute 89 = .ok (.invokevirtual 99, 3) := by decide +kernel
theorem dX4_emitCompute_92 : decode cX4_emitCompute 92 = .ok (.iload_n 2, 1) := by decide +kernel
theorem dX4_emitCompute_93 : decode cX4_emitCompute 93 = .ok (.iconst 4, 1) := by decide +kernel
theorem dX4_emitCompute_94 : decode cX4_emitCompute 94 = .ok (.if_icmp .ge 13, 3) := by decide +kernel
theorem dX4_emitCompute_97 : decode cX4_emitCompute 97 = .ok (.aload_n 0, 1) := by decide +kernel
theorem dX4_emitCompute_98 : decode cX4_emitCompute 98 = .ok (.iconst 4, 1) := by decide +kernel
theorem dX4_emitCompute_99 : decode cX4_emitCompute 99 = .ok (.iload_n 2, 1) := by decide +kernel
theorem dX4_emitCompute_100 : decode cX4_emitCompute 100 = .ok (.iadd, 1) := by decide +kernel
theorem dX4_emitCompute_101 : decode cX4_emitCompute 101 = .ok (.invokevirtual 99, 3) := by decide +kernel
theorem dX4_emitCompute_104 : decode cX4_emitCompute 104 = .ok (.goto 8, 3) := by decide +kernel
theorem dX4_emitCompute_107 : decode cX4_emitCompute 107 = .ok (.aload_n 0, 1) := by decide +kernel
theorem dX4_emitCompute_108 : decode cX4_emitCompute 108 = .ok (.iload_n 2, 1) := by decide +kernel
theorem dX4_emitCompute_109 : decode cX4_emitCompute 109 = .ok (.invokevirtual 120, 3) := by decide +kernel
theorem dX4_emitCompute_112 : decode cX4_emitCompute 112 = .ok (.return_, 1) := by decide +kernel
theorem dX4_emitPlace_0 : decode cX4_emitPlace 0 = .ok (.aload_n 0, 1) := by decide +kernel
theorem dX4_emitPlace_1 : decode cX4_emitPlace 1 = .ok (.sipush 8455, 3) := by decide +kernel
theorem dX4_emitPlace_4 : decode cX4_emitPlace 4 = .ok (.invokevirtual 99, 3) := by decide +kernel
theorem dX4_emitPlace_7 : decode cX4_emitPlace 7 = .ok (.aload_n 0, 1) := by decide +kernel
theorem dX4_emitPlace_8 : decode cX4_emitPlace 8 = .ok (.sipush 16385, 3) := by decide +kernel
theorem dX4_emitPlace_11 : decode cX4_emitPlace 11 = .ok (.bipush 8, 2) := by decide +kernel
theorem dX4_emitPlace_13 : decode cX4_emitPlace 13 = .ok (.iload_n 1, 1) := by decide +kernel
theorem dX4_emitPlace_14 : decode cX4_emitPlace 14 = .ok (.imul, 1) := by decide +kernel
theorem dX4_emitPlace_15 : decode cX4_emitPlace 15 = .ok (.iadd, 1) := by decide +kernel
theorem dX4_emitPlace_16 : decode cX4_emitPlace 16 = .ok (.invokevirtual 99, 3) := by decide +kernel
theorem dX4_emitPlace_19 : decode cX4_emitPlace 19 = .ok (.aload_n 0, 1) := by decide +kernel
theorem dX4_emitPlace_20 : decode cX4_emitPlace 20 = .ok (.sipush 137, 3) := by decide +kernel
theorem dX4_emitPlace_23 : decode cX4_emitPlace 23 = .ok (.invokevirtual 99, 3) := by decide +kernel
theorem dX4_emitPlace_26 : decode cX4_emitPlace 26 = .ok (.return_, 1) := by decide +kernel
theorem dX4_emitBranch_0 : decode cX4_emitBranch 0 = .ok (.aload_n 0, 1) := by decide +kernel
theorem dX4_emitBranch_1 : decode cX4_emitBranch 1 = .ok (.aload_n 0, 1) := by decide +kernel
theorem dX4_emitBranch_2 : decode cX4_emitBranch 2 = .ok (.getfield 16, 3) := by decide +kernel
theorem dX4_emitBranch_5 : decode cX4_emitBranch 5 = .ok (.iload_n 1, 1) := by decide +kernel
theorem dX4_emitBranch_6 : decode cX4_emitBranch 6 = .ok (.iaload, 1) := by decide +kernel
theorem dX4_emitBranch_7 : decode cX4_emitBranch 7 = .ok (.iconst 0, 1) := by decide +kernel
theorem dX4_emitBranch_8 : decode cX4_emitBranch 8 = .ok (.invokevirtual 114, 3) := by decide +kernel
theorem dX4_emitBranch_11 : decode cX4_emitBranch 11 = .ok (.istore_n 2, 1) := by decide +kernel
theorem dX4_emitBranch_12 : decode cX4_emitBranch 12 = .ok (.aload_n 0, 1) := by decide +kernel
theorem dX4_emitBranch_13 : decode cX4_emitBranch 13 = .ok (.aload_n 0, 1) := by decide +kernel
theorem dX4_emitBranch_14 : decode cX4_emitBranch 14 = .ok (.getfield 19, 3) := by decide +kernel
theorem dX4_emitBranch_17 : decode cX4_emitBranch 17 = .ok (.iload_n 1, 1) := by decide +kernel
theorem dX4_emitBranch_18 : decode cX4_emitBranch 18 = .ok (.iaload, 1) := by decide +kernel
theorem dX4_emitBranch_19 : decode cX4_emitBranch 19 = .ok (.iconst 1, 1) := by decide +kernel
theorem dX4_emitBranch_20 : decode cX4_emitBranch 20 = .ok (.invokevirtual 114, 3) := by decide +kernel
theorem dX4_emitBranch_23 : decode cX4_emitBranch 23 = .ok (.istore_n 3, 1) := by decide +kernel
theorem dX4_emitBranch_24 : decode cX4_emitBranch 24 = .ok (.aload_n 0, 1) := by decide +kernel
theorem dX4_emitBranch_25 : decode cX4_emitBranch 25 = .ok (.sipush 17024, 3) := by decide +kernel
theorem dX4_emitBranch_28 : decode cX4_emitBranch 28 = .ok (.bipush 8, 2) := by decide +kernel
theorem dX4_emitBranch_30 : decode cX4_emitBranch 30 = .ok (.iload_n 3, 1) := by decide +kernel
theorem dX4_emitBranch_31 : decode cX4_emitBranch 31 = .ok (.imul, 1) := by decide +kernel
theorem dX4_emitBranch_32 : decode cX4_emitBranch 32 = .ok (.iadd, 1) := by decide +kernel
theorem dX4_emitBranch_33 : decode cX4_emitBranch 33 = .ok (.iload_n 2, 1) := by decide +kernel
theorem dX4_emitBranch_34 : decode cX4_emitBranch 34 = .ok (.iadd, 1) := by decide +kernel
theorem dX4_emitBranch_35 : decode cX4_emitBranch 35 = .ok (.invokevirtual 99, 3) := by decide +kernel
theorem dX4_emitBranch_38 : decode cX4_emitBranch 38 = .ok (.aload_n 0, 1) := by decide +kernel
theorem dX4_emitBranch_39 : decode cX4_emitBranch 39 = .ok (.getfield 34, 3) := by decide +kernel
theorem dX4_emitBranch_42 : decode cX4_emitBranch 42 = .ok (.iload_n 1, 1) := by decide +kernel
theorem dX4_emitBranch_43 : decode cX4_emitBranch 43 = .ok (.baload, 1) := by decide +kernel
theorem dX4_emitBranch_44 : decode cX4_emitBranch 44 = .ok (.ifCond .eq 35, 3) := by decide +kernel
theorem dX4_emitBranch_47 : decode cX4_emitBranch 47 = .ok (.aload_n 0, 1) := by decide +kernel
theorem dX4_emitBranch_48 : decode cX4_emitBranch 48 = .ok (.ldc 129, 2) := by decide +kernel
theorem dX4_emitBranch_50 : decode cX4_emitBranch 50 = .ok (.sipush 256, 3) := by decide +kernel
theorem dX4_emitBranch_53 : decode cX4_emitBranch 53 = .ok (.aload_n 0, 1) := by decide +kernel
theorem dX4_emitBranch_54 : decode cX4_emitBranch 54 = .ok (.getfield 13, 3) := by decide +kernel
theorem dX4_emitBranch_57 : decode cX4_emitBranch 57 = .ok (.iload_n 1, 1) := by decide +kernel
theorem dX4_emitBranch_58 : decode cX4_emitBranch 58 = .ok (.iaload, 1) := by decide +kernel
theorem dX4_emitBranch_59 : decode cX4_emitBranch 59 = .ok (.iconst 1, 1) := by decide +kernel
theorem dX4_emitBranch_60 : decode cX4_emitBranch 60 = .ok (.ixor, 1) := by decide +kernel
theorem dX4_emitBranch_61 : decode cX4_emitBranch 61 = .ok (.imul, 1) := by decide +kernel
theorem dX4_emitBranch_62 : decode cX4_emitBranch 62 = .ok (.iadd, 1) := by decide +kernel
theorem dX4_emitBranch_63 : decode cX4_emitBranch 63 = .ok (.invokevirtual 99, 3) := by decide +kernel
theorem dX4_emitBranch_66 : decode cX4_emitBranch 66 = .ok (.aload_n 0, 1) := by decide +kernel
theorem dX4_emitBranch_67 : decode cX4_emitBranch 67 = .ok (.aload_n 0, 1) := by decide +kernel
theorem dX4_emitBranch_68 : decode cX4_emitBranch 68 = .ok (.getfield 22, 3) := by decide +kernel
theorem dX4_emitBranch_71 : decode cX4_emitBranch 71 = .ok (.iload_n 1, 1) := by decide +kernel
theorem dX4_emitBranch_72 : decode cX4_emitBranch 72 = .ok (.iaload, 1) := by decide +kernel
theorem dX4_emitBranch_73 : decode cX4_emitBranch 73 = .ok (.invokevirtual 130, 3) := by decide +kernel
theorem dX4_emitBranch_76 : decode cX4_emitBranch 76 = .ok (.goto 39, 3) := by decide +kernel
theorem dX4_emitBranch_79 : decode cX4_emitBranch 79 = .ok (.aload_n 0, 1) := by decide +kernel
theorem dX4_emitBranch_80 : decode cX4_emitBranch 80 = .ok (.ldc 129, 2) := by decide +kernel
theorem dX4_emitBranch_82 : decode cX4_emitBranch 82 = .ok (.sipush 256, 3) := by decide +kernel
theorem dX4_emitBranch_85 : decode cX4_emitBranch 85 = .ok (.aload_n 0, 1) := by decide +kernel
theorem dX4_emitBranch_86 : decode cX4_emitBranch 86 = .ok (.getfield 13, 3) := by decide +kernel
theorem dX4_emitBranch_89 : decode cX4_emitBranch 89 = .ok (.iload_n 1, 1) := by decide +kernel
theorem dX4_emitBranch_90 : decode cX4_emitBranch 90 = .ok (.iaload, 1) := by decide +kernel
theorem dX4_emitBranch_91 : decode cX4_emitBranch 91 = .ok (.imul, 1) := by decide +kernel
theorem dX4_emitBranch_92 : decode cX4_emitBranch 92 = .ok (.iadd, 1) := by decide +kernel
theorem dX4_emitBranch_93 : decode cX4_emitBranch 93 = .ok (.aload_n 0, 1) := by decide +kernel
theorem dX4_emitBranch_94 : decode cX4_emitBranch 94 = .ok (.aload_n 0, 1) := by decide +kernel
theorem dX4_emitBranch_95 : decode cX4_emitBranch 95 = .ok (.getfield 95, 3) := by decide +kernel
theorem dX4_emitBranch_98 : decode cX4_emitBranch 98 = .ok (.aload_n 0, 1) := by decide +kernel
theorem dX4_emitBranch_99 : decode cX4_emitBranch 99 = .ok (.getfield 22, 3) := by decide +kernel
theorem dX4_emitBranch_102 : decode cX4_emitBranch 102 = .ok (.iload_n 1, 1) := by decide +kernel
theorem dX4_emitBranch_103 : decode cX4_emitBranch 103 = .ok (.iaload, 1) := by decide +kernel
theorem dX4_emitBranch_104 : decode cX4_emitBranch 104 = .ok (.invokevirtual 91, 3) := by decide +kernel
theorem dX4_emitBranch_107 : decode cX4_emitBranch 107 = .ok (.sipush 255, 3) := by decide +kernel
theorem dX4_emitBranch_110 : decode cX4_emitBranch 110 = .ok (.iand, 1) := by decide +kernel
theorem dX4_emitBranch_111 : decode cX4_emitBranch 111 = .ok (.iadd, 1) := by decide +kernel
theorem dX4_emitBranch_112 : decode cX4_emitBranch 112 = .ok (.invokevirtual 99, 3) := by decide +kernel
theorem dX4_emitBranch_115 : decode cX4_emitBranch 115 = .ok (.return_, 1) := by decide +kernel
theorem dX4_emitJump_0 : decode cX4_emitJump 0 = .ok (.aload_n 0, 1) := by decide +kernel
theorem dX4_emitJump_1 : decode cX4_emitJump 1 = .ok (.ldc 133, 2) := by decide +kernel
theorem dX4_emitJump_3 : decode cX4_emitJump 3 = .ok (.aload_n 0, 1) := by decide +kernel
theorem dX4_emitJump_4 : decode cX4_emitJump 4 = .ok (.aload_n 0, 1) := by decide +kernel
theorem dX4_emitJump_5 : decode cX4_emitJump 5 = .ok (.getfield 95, 3) := by decide +kernel
theorem dX4_emitJump_8 : decode cX4_emitJump 8 = .ok (.iload_n 1, 1) := by decide +kernel
theorem dX4_emitJump_9 : decode cX4_emitJump 9 = .ok (.invokevirtual 91, 3) := by decide +kernel
theorem dX4_emitJump_12 : decode cX4_emitJump 12 = .ok (.sipush 2047, 3) := by decide +kernel
theorem dX4_emitJump_15 : decode cX4_emitJump 15 = .ok (.iand, 1) := by decide +kernel
theorem dX4_emitJump_16 : decode cX4_emitJump 16 = .ok (.iadd, 1) := by decide +kernel
theorem dX4_emitJump_17 : decode cX4_emitJump 17 = .ok (.invokevirtual 99, 3) := by decide +kernel
theorem dX4_emitJump_20 : decode cX4_emitJump 20 = .ok (.return_, 1) := by decide +kernel
theorem dX4_emitInstruction_0 : decode cX4_emitInstruction 0 = .ok (.aload_n 0, 1) := by decide +kernel
theorem dX4_emitInstruction_1 : decode cX4_emitInstruction 1 = .ok (.getfield 7, 3) := by decide +kernel
theorem dX4_emitInstruction_4 : decode cX4_emitInstruction 4 = .ok (.iload_n 1, 1) := by decide +kernel
theorem dX4_emitInstruction_5 : decode cX4_emitInstruction 5 = .ok (.iaload, 1) := by decide +kernel
theorem dX4_emitInstruction_6 : decode cX4_emitInstruction 6 = .ok (.tableswitch 233 0 6 #[42, 74, 105, 152, 193, 206, 214], 42) := by decide +kernel
theorem dX4_emitInstruction_48 : decode cX4_emitInstruction 48 = .ok (.aload_n 0, 1) := by decide +kernel
theorem dX4_emitInstruction_49 : decode cX4_emitInstruction 49 = .ok (.aload_n 0, 1) := by decide +kernel
theorem dX4_emitInstruction_50 : decode cX4_emitInstruction 50 = .ok (.getfield 16, 3) := by decide +kernel
theorem dX4_emitInstruction_53 : decode cX4_emitInstruction 53 = .ok (.iload_n 1, 1) := by decide +kernel
theorem dX4_emitInstruction_54 : decode cX4_emitInstruction 54 = .ok (.iaload, 1) := by decide +kernel
theorem dX4_emitInstruction_55 : decode cX4_emitInstruction 55 = .ok (.invokestatic 117, 3) := by decide +kernel
theorem dX4_emitInstruction_58 : decode cX4_emitInstruction 58 = .ok (.aload_n 0, 1) := by decide +kernel
theorem dX4_emitInstruction_59 : decode cX4_emitInstruction 59 = .ok (.getfield 13, 3) := by decide +kernel
theorem dX4_emitInstruction_62 : decode cX4_emitInstruction 62 = .ok (.iload_n 1, 1) := by decide +kernel
theorem dX4_emitInstruction_63 : decode cX4_emitInstruction 63 = .ok (.iaload, 1) := by decide +kernel
theorem dX4_emitInstruction_64 : decode cX4_emitInstruction 64 = .ok (.invokevirtual 134, 3) := by decide +kernel
theorem dX4_emitInstruction_67 : decode cX4_emitInstruction 67 = .ok (.aload_n 0, 1) := by decide +kernel
theorem dX4_emitInstruction_68 : decode cX4_emitInstruction 68 = .ok (.aload_n 0, 1) := by decide +kernel
theorem dX4_emitInstruction_69 : decode cX4_emitInstruction 69 = .ok (.getfield 16, 3) := by decide +kernel
theorem dX4_emitInstruction_72 : decode cX4_emitInstruction 72 = .ok (.iload_n 1, 1) := by decide +kernel
theorem dX4_emitInstruction_73 : decode cX4_emitInstruction 73 = .ok (.iaload, 1) := by decide +kernel
theorem dX4_emitInstruction_74 : decode cX4_emitInstruction 74 = .ok (.invokevirtual 120, 3) := by decide +kernel
theorem dX4_emitInstruction_77 : decode cX4_emitInstruction 77 = .ok (.goto 191, 3) := by decide +kernel
theorem dX4_emitInstruction_80 : decode cX4_emitInstruction 80 = .ok (.aload_n 0, 1) := by decide +kernel
theorem dX4_emitInstruction_81 : decode cX4_emitInstruction 81 = .ok (.aload_n 0, 1) := by decide +kernel
theorem dX4_emitInstruction_82 : decode cX4_emitInstruction 82 = .ok (.getfield 13, 3) := by decide +kernel
theorem dX4_emitInstruction_85 : decode cX4_emitInstruction 85 = .ok (.iload_n 1, 1) := by decide +kernel
theorem dX4_emitInstruction_86 : decode cX4_emitInstruction 86 = .ok (.iaload, 1) := by decide +kernel
theorem dX4_emitInstruction_87 : decode cX4_emitInstruction 87 = .ok (.aload_n 0, 1) := by decide +kernel
theorem dX4_emitInstruction_88 : decode cX4_emitInstruction 88 = .ok (.getfield 16, 3) := by decide +kernel
theorem dX4_emitInstruction_91 : decode cX4_emitInstruction 91 = .ok (.iload_n 1, 1) := by decide +kernel
theorem dX4_emitInstruction_92 : decode cX4_emitInstruction 92 = .ok (.iaload, 1) := by decide +kernel
theorem dX4_emitInstruction_93 : decode cX4_emitInstruction 93 = .ok (.aload_n 0, 1) := by decide +kernel
theorem dX4_emitInstruction_94 : decode cX4_emitInstruction 94 = .ok (.getfield 19, 3) := by decide +kernel
theorem dX4_emitInstruction_97 : decode cX4_emitInstruction 97 = .ok (.iload_n 1, 1) := by decide +kernel
theorem dX4_emitInstruction_98 : decode cX4_emitInstruction 98 = .ok (.iaload, 1) := by decide +kernel
theorem dX4_emitInstruction_99 : decode cX4_emitInstruction 99 = .ok (.aload_n 0, 1) := by decide +kernel
theorem dX4_emitInstruction_100 : decode cX4_emitInstruction 100 = .ok (.getfield 22, 3) := by decide +kernel
theorem dX4_emitInstruction_103 : decode cX4_emitInstruction 103 = .ok (.iload_n 1, 1) := by decide +kernel
theorem dX4_emitInstruction_104 : decode cX4_emitInstruction 104 = .ok (.iaload, 1) := by decide +kernel
theorem dX4_emitInstruction_105 : decode cX4_emitInstruction 105 = .ok (.invokevirtual 137, 3) := by decide +kernel
theorem dX4_emitInstruction_108 : decode cX4_emitInstruction 108 = .ok (.goto 160, 3) := by decide +kernel
theorem dX4_emitInstruction_111 : decode cX4_emitInstruction 111 = .ok (.aload_n 0, 1) := by decide +kernel
theorem dX4_emitInstruction_112 : decode cX4_emitInstruction 112 = .ok (.aload_n 0, 1) := by decide +kernel
theorem dX4_emitInstruction_113 : decode cX4_emitInstruction 113 = .ok (.getfield 16, 3) := by decide +kernel
theorem dX4_emitInstruction_116 : decode cX4_emitInstruction 116 = .ok (.iload_n 1, 1) := by decide +kernel
theorem dX4_emitInstruction_117 : decode cX4_emitInstruction 117 = .ok (.iaload, 1) := by decide +kernel
theorem dX4_emitInstruction_118 : decode cX4_emitInstruction 118 = .ok (.iconst 0, 1) := by decide +kernel
theorem dX4_emitInstruction_119 : decode cX4_emitInstruction 119 = .ok (.invokevirtual 114, 3) := by decide +kernel
theorem dX4_emitInstruction_122 : decode cX4_emitInstruction 122 = .ok (.istore_n 2, 1) := by decide +kernel
theorem dX4_emitInstruction_123 : decode cX4_emitInstruction 123 = .ok (.aload_n 0, 1) := by decide +kernel
theorem dX4_emitInstruction_124 : decode cX4_emitInstruction 124 = .ok (.iload_n 2, 1) := by decide +kernel
theorem dX4_emitInstruction_125 : decode cX4_emitInstruction 125 = .ok (.invokevirtual 141, 3) := by decide +kernel
theorem dX4_emitInstruction_128 : decode cX4_emitInstruction 128 = .ok (.aload_n 0, 1) := by decide +kernel
theorem dX4_emitInstruction_129 : decode cX4_emitInstruction 129 = .ok (.sipush 22616, 3) := by decide +kernel
theorem dX4_emitInstruction_132 : decode cX4_emitInstruction 132 = .ok (.aload_n 0, 1) := by decide +kernel
theorem dX4_emitInstruction_133 : decode cX4_emitInstruction 133 = .ok (.getfield 13, 3) := by decide +kernel
theorem dX4_emitInstruction_136 : decode cX4_emitInstruction 136 = .ok (.iload_n 1, 1) := by decide +kernel
theorem dX4_emitInstruction_137 : decode cX4_emitInstruction 137 = .ok (.iaload, 1) := by decide +kernel
theorem dX4_emitInstruction_138 : decode cX4_emitInstruction 138 = .ok (.invokestatic 117, 3) := by decide +kernel
theorem dX4_emitInstruction_141 : decode cX4_emitInstruction 141 = .ok (.iadd, 1) := by decide +kernel
theorem dX4_emitInstruction_142 : decode cX4_emitInstruction 142 = .ok (.invokevirtual 99, 3) := by decide +kernel
theorem dX4_emitInstruction_145 : decode cX4_emitInstruction 145 = .ok (.aload_n 0, 1) := by decide +kernel
theorem dX4_emitInstruction_146 : decode cX4_emitInstruction 146 = .ok (.aload_n 0, 1) := by decide +kernel
theorem dX4_emitInstruction_147 : decode cX4_emitInstruction 147 = .ok (.getfield 13, 3) := by decide +kernel
theorem dX4_emitInstruction_150 : decode cX4_emitInstruction 150 = .ok (.iload_n 1, 1) := by decide +kernel
theorem dX4_emitInstruction_151 : decode cX4_emitInstruction 151 = .ok (.iaload, 1) := by decide +kernel
theorem dX4_emitInstruction_152 : decode cX4_emitInstruction 152 = .ok (.invokevirtual 120, 3) := by decide +kernel
theorem dX4_emitInstruction_155 : decode cX4_emitInstruction 155 = .ok (.goto 113, 3) := by decide +kernel
theorem dX4_emitInstruction_158 : decode cX4_emitInstruction 158 = .ok (.aload_n 0, 1) := by decide +kernel
theorem dX4_emitInstruction_159 : decode cX4_emitInstruction 159 = .ok (.aload_n 0, 1) := by decide +kernel
theorem dX4_emitInstruction_160 : decode cX4_emitInstruction 160 = .ok (.getfield 13, 3) := by decide +kernel
theorem dX4_emitInstruction_163 : decode cX4_emitInstruction 163 = .ok (.iload_n 1, 1) := by decide +kernel
theorem dX4_emitInstruction_164 : decode cX4_emitInstruction 164 = .ok (.iaload, 1) := by decide +kernel
theorem dX4_emitInstruction_165 : decode cX4_emitInstruction 165 = .ok (.iconst 0, 1) := by decide +kernel
theorem dX4_emitInstruction_166 : decode cX4_emitInstruction 166 = .ok (.invokevirtual 114, 3) := by decide +kernel
theorem dX4_emitInstruction_169 : decode cX4_emitInstruction 169 = .ok (.istore_n 2, 1) := by decide +kernel
theorem dX4_emitInstruction_170 : decode cX4_emitInstruction 170 = .ok (.aload_n 0, 1) := by decide +kernel
theorem dX4_emitInstruction_171 : decode cX4_emitInstruction 171 = .ok (.iload_n 2, 1) := by decide +kernel
theorem dX4_emitInstruction_172 : decode cX4_emitInstruction 172 = .ok (.invokevirtual 141, 3) := by decide +kernel
theorem dX4_emitInstruction_175 : decode cX4_emitInstruction 175 = .ok (.aload_n 0, 1) := by decide +kernel
theorem dX4_emitInstruction_176 : decode cX4_emitInstruction 176 = .ok (.aload_n 0, 1) := by decide +kernel
theorem dX4_emitInstruction_177 : decode cX4_emitInstruction 177 = .ok (.getfield 16, 3) := by decide +kernel
theorem dX4_emitInstruction_180 : decode cX4_emitInstruction 180 = .ok (.iload_n 1, 1) := by decide +kernel
theorem dX4_emitInstruction_181 : decode cX4_emitInstruction 181 = .ok (.iaload, 1) := by decide +kernel
theorem dX4_emitInstruction_182 : decode cX4_emitInstruction 182 = .ok (.iconst 0, 1) := by decide +kernel
theorem dX4_emitInstruction_183 : decode cX4_emitInstruction 183 = .ok (.invokevirtual 114, 3) := by decide +kernel
theorem dX4_emitInstruction_186 : decode cX4_emitInstruction 186 = .ok (.istore_n 2, 1) := by decide +kernel
theorem dX4_emitInstruction_187 : decode cX4_emitInstruction 187 = .ok (.aload_n 0, 1) := by decide +kernel
theorem dX4_emitInstruction_188 : decode cX4_emitInstruction 188 = .ok (.sipush 20568, 3) := by decide +kernel
theorem dX4_emitInstruction_191 : decode cX4_emitInstruction 191 = .ok (.iload_n 2, 1) := by decide +kernel
theorem dX4_emitInstruction_192 : decode cX4_emitInstruction 192 = .ok (.iadd, 1) := by decide +kernel
theorem dX4_emitInstruction_193 : decode cX4_emitInstruction 193 = .ok (.invokevirtual 99, 3) := by decide +kernel
theorem dX4_emitInstruction_196 : decode cX4_emitInstruction 196 = .ok (.goto 72, 3) := by decide +kernel
theorem dX4_emitInstruction_199 : decode cX4_emitInstruction 199 = .ok (.aload_n 0, 1) := by decide +kernel
theorem dX4_emitInstruction_200 : decode cX4_emitInstruction 200 = .ok (.aload_n 0, 1) := by decide +kernel
theorem dX4_emitInstruction_201 : decode cX4_emitInstruction 201 = .ok (.getfield 13, 3) := by decide +kernel
theorem dX4_emitInstruction_204 : decode cX4_emitInstruction 204 = .ok (.iload_n 1, 1) := by decide +kernel
theorem dX4_emitInstruction_205 : decode cX4_emitInstruction 205 = .ok (.iaload, 1) := by decide +kernel
theorem dX4_emitInstruction_206 : decode cX4_emitInstruction 206 = .ok (.invokevirtual 130, 3) := by decide +kernel
theorem dX4_emitInstruction_209 : decode cX4_emitInstruction 209 = .ok (.goto 59, 3) := by decide +kernel
theorem dX4_emitInstruction_212 : decode cX4_emitInstruction 212 = .ok (.aload_n 0, 1) := by decide +kernel
theorem dX4_emitInstruction_213 : decode cX4_emitInstruction 213 = .ok (.iload_n 1, 1) := by decide +kernel
theorem dX4_emitInstruction_214 : decode cX4_emitInstruction 214 = .ok (.invokevirtual 144, 3) := by decide +kernel
theorem dX4_emitInstruction_217 : decode cX4_emitInstruction 217 = .ok (.goto 51, 3) := by decide +kernel
theorem dX4_emitInstruction_220 : decode cX4_emitInstruction 220 = .ok (.aload_n 0, 1) := by decide +kernel
theorem dX4_emitInstruction_221 : decode cX4_emitInstruction 221 = .ok (.aload_n 0, 1) := by decide +kernel
theorem dX4_emitInstruction_222 : decode cX4_emitInstruction 222 = .ok (.getfield 13, 3) := by decide +kernel
theorem dX4_emitInstruction_225 : decode cX4_emitInstruction 225 = .ok (.iload_n 1, 1) := by decide +kernel
theorem dX4_emitInstruction_226 : decode cX4_emitInstruction 226 = .ok (.iaload, 1) := by decide +kernel
theorem dX4_emitInstruction_227 : decode cX4_emitInstruction 227 = .ok (.invokevirtual 123, 3) := by decide +kernel
theorem dX4_emitInstruction_230 : decode cX4_emitInstruction 230 = .ok (.aload_n 0, 1) := by decide +kernel
theorem dX4_emitInstruction_231 : decode cX4_emitInstruction 231 = .ok (.ldc 147, 2) := by decide +kernel
theorem dX4_emitInstruction_233 : decode cX4_emitInstruction 233 = .ok (.invokevirtual 99, 3) := by decide +kernel
theorem dX4_emitInstruction_236 : decode cX4_emitInstruction 236 = .ok (.goto 32, 3) := by decide +kernel
theorem dX4_emitInstruction_239 : decode cX4_emitInstruction 239 = .ok (.aload_n 0, 1) := by decide +kernel
theorem dX4_emitInstruction_240 : decode cX4_emitInstruction 240 = .ok (.aload_n 0, 1) := by decide +kernel
theorem dX4_emitInstruction_241 : decode cX4_emitInstruction 241 = .ok (.getfield 7, 3) := by decide +kernel
theorem dX4_emitInstruction_244 : decode cX4_emitInstruction 244 = .ok (.iload_n 1, 1) := by decide +kernel
theorem dX4_emitInstruction_245 : decode cX4_emitInstruction 245 = .ok (.iaload, 1) := by decide +kernel
theorem dX4_emitInstruction_246 : decode cX4_emitInstruction 246 = .ok (.bipush 7, 2) := by decide +kernel
theorem dX4_emitInstruction_248 : decode cX4_emitInstruction 248 = .ok (.if_icmp .ne 8, 3) := by decide +kernel
theorem dX4_emitInstruction_251 : decode cX4_emitInstruction 251 = .ok (.ldc 148, 2) := by decide +kernel
theorem dX4_emitInstruction_253 : decode cX4_emitInstruction 253 = .ok (.goto 12, 3) := by decide +kernel
theorem dX4_emitInstruction_256 : decode cX4_emitInstruction 256 = .ok (.ldc 149, 2) := by decide +kernel
theorem dX4_emitInstruction_258 : decode cX4_emitInstruction 258 = .ok (.aload_n 0, 1) := by decide +kernel
theorem dX4_emitInstruction_259 : decode cX4_emitInstruction 259 = .ok (.getfield 13, 3) := by decide +kernel
theorem dX4_emitInstruction_262 : decode cX4_emitInstruction 262 = .ok (.iload_n 1, 1) := by decide +kernel
theorem dX4_emitInstruction_263 : decode cX4_emitInstruction 263 = .ok (.iaload, 1) := by decide +kernel
theorem dX4_emitInstruction_264 : decode cX4_emitInstruction 264 = .ok (.iadd, 1) := by decide +kernel
theorem dX4_emitInstruction_265 : decode cX4_emitInstruction 265 = .ok (.invokevirtual 99, 3) := by decide +kernel
theorem dX4_emitInstruction_268 : decode cX4_emitInstruction 268 = .ok (.return_, 1) := by decide +kernel
theorem dX4_isSound_0 : decode cX4_isSound 0 = .ok (.aload_n 0, 1) := by decide +kernel
theorem dX4_isSound_1 : decode cX4_isSound 1 = .ok (.getfield 51, 3) := by decide +kernel
theorem dX4_isSound_4 : decode cX4_isSound 4 = .ok (.ifCond .le 54, 3) := by decide +kernel
theorem dX4_isSound_7 : decode cX4_isSound 7 = .ok (.aload_n 0, 1) := by decide +kernel
theorem dX4_isSound_8 : decode cX4_isSound 8 = .ok (.getfield 7, 3) := by decide +kernel
theorem dX4_isSound_11 : decode cX4_isSound 11 = .ok (.aload_n 0, 1) := by decide +kernel
theorem dX4_isSound_12 : decode cX4_isSound 12 = .ok (.getfield 51, 3) := by decide +kernel
theorem dX4_isSound_15 : decode cX4_isSound 15 = .ok (.iconst 1, 1) := by decide +kernel
theorem dX4_isSound_16 : decode cX4_isSound 16 = .ok (.isub, 1) := by decide +kernel
theorem dX4_isSound_17 : decode cX4_isSound 17 = .ok (.iaload, 1) := by decide +kernel
theorem dX4_isSound_18 : decode cX4_isSound 18 = .ok (.iconst 4, 1) := by decide +kernel
theorem dX4_isSound_19 : decode cX4_isSound 19 = .ok (.if_icmp .eq 35, 3) := by decide +kernel
theorem dX4_isSound_22 : decode cX4_isSound 22 = .ok (.aload_n 0, 1) := by decide +kernel
theorem dX4_isSound_23 : decode cX4_isSound 23 = .ok (.getfield 7, 3) := by decide +kernel
theorem dX4_isSound_26 : decode cX4_isSound 26 = .ok (.aload_n 0, 1) := by decide +kernel
theorem dX4_isSound_27 : decode cX4_isSound 27 = .ok (.getfield 51, 3) := by decide +kernel
theorem dX4_isSound_30 : decode cX4_isSound 30 = .ok (.iconst 1, 1) := by decide +kernel
theorem dX4_isSound_31 : decode cX4_isSound 31 = .ok (.isub, 1) := by decide +kernel
theorem dX4_isSound_32 : decode cX4_isSound 32 = .ok (.iaload, 1) := by decide +kernel
theorem dX4_isSound_33 : decode cX4_isSound 33 = .ok (.bipush 7, 2) := by decide +kernel
theorem dX4_isSound_35 : decode cX4_isSound 35 = .ok (.if_icmp .eq 19, 3) := by decide +kernel
theorem dX4_isSound_38 : decode cX4_isSound 38 = .ok (.aload_n 0, 1) := by decide +kernel
theorem dX4_isSound_39 : decode cX4_isSound 39 = .ok (.getfield 7, 3) := by decide +kernel
theorem dX4_isSound_42 : decode cX4_isSound 42 = .ok (.aload_n 0, 1) := by decide +kernel
theorem dX4_isSound_43 : decode cX4_isSound 43 = .ok (.getfield 51, 3) := by decide +kernel
theorem dX4_isSound_46 : decode cX4_isSound 46 = .ok (.iconst 1, 1) := by decide +kernel
theorem dX4_isSound_47 : decode cX4_isSound 47 = .ok (.isub, 1) := by decide +kernel
theorem dX4_isSound_48 : decode cX4_isSound 48 = .ok (.iaload, 1) := by decide +kernel
theorem dX4_isSound_49 : decode cX4_isSound 49 = .ok (.bipush 8, 2) := by decide +kernel
theorem dX4_isSound_51 : decode cX4_isSound 51 = .ok (.if_icmp .ne 7, 3) := by decide +kernel
theorem dX4_isSound_54 : decode cX4_isSound 54 = .ok (.iconst 1, 1) := by decide +kernel
theorem dX4_isSound_55 : decode cX4_isSound 55 = .ok (.goto 4, 3) := by decide +kernel
theorem dX4_isSound_58 : decode cX4_isSound 58 = .ok (.iconst 0, 1) := by decide +kernel
theorem dX4_isSound_59 : decode cX4_isSound 59 = .ok (.istore_n 1, 1) := by decide +kernel
theorem dX4_isSound_60 : decode cX4_isSound 60 = .ok (.iconst 0, 1) := by decide +kernel
theorem dX4_isSound_61 : decode cX4_isSound 61 = .ok (.istore_n 2, 1) := by decide +kernel
theorem dX4_isSound_62 : decode cX4_isSound 62 = .ok (.iload_n 2, 1) := by decide +kernel
theorem dX4_isSound_63 : decode cX4_isSound 63 = .ok (.aload_n 0, 1) := by decide +kernel
theorem dX4_isSound_64 : decode cX4_isSound 64 = .ok (.getfield 51, 3) := by decide +kernel
theorem dX4_isSound_67 : decode cX4_isSound 67 = .ok (.if_icmp .ge 65, 3) := by decide +kernel
theorem dX4_isSound_70 : decode cX4_isSound 70 = .ok (.iload_n 1, 1) := by decide +kernel
theorem dX4_isSound_71 : decode cX4_isSound 71 = .ok (.ifCond .eq 53, 3) := by decide +kernel
theorem dX4_isSound_74 : decode cX4_isSound 74 = .ok (.aload_n 0, 1) := by decide +kernel
theorem dX4_isSound_75 : decode cX4_isSound 75 = .ok (.getfield 7, 3) := by decide +kernel
theorem dX4_isSound_78 : decode cX4_isSound 78 = .ok (.iload_n 2, 1) := by decide +kernel
theorem dX4_isSound_79 : decode cX4_isSound 79 = .ok (.iaload, 1) := by decide +kernel
theorem dX4_isSound_80 : decode cX4_isSound 80 = .ok (.iconst 4, 1) := by decide +kernel
theorem dX4_isSound_81 : decode cX4_isSound 81 = .ok (.if_icmp .ne 16, 3) := by decide +kernel
theorem dX4_isSound_84 : decode cX4_isSound 84 = .ok (.aload_n 0, 1) := by decide +kernel
theorem dX4_isSound_85 : decode cX4_isSound 85 = .ok (.getfield 13, 3) := by decide +kernel
theorem dX4_isSound_88 : decode cX4_isSound 88 = .ok (.iload_n 2, 1) := by decide +kernel
theorem dX4_isSound_89 : decode cX4_isSound 89 = .ok (.iaload, 1) := by decide +kernel
theorem dX4_isSound_90 : decode cX4_isSound 90 = .ok (.aload_n 0, 1) := by decide +kernel
theorem dX4_isSound_91 : decode cX4_isSound 91 = .ok (.getfield 51, 3) := by decide +kernel
theorem dX4_isSound_94 : decode cX4_isSound 94 = .ok (.if_icmp .ge 30, 3) := by decide +kernel
theorem dX4_isSound_97 : decode cX4_isSound 97 = .ok (.aload_n 0, 1) := by decide +kernel
theorem dX4_isSound_98 : decode cX4_isSound 98 = .ok (.getfield 7, 3) := by decide +kernel
theorem dX4_isSound_101 : decode cX4_isSound 101 = .ok (.iload_n 2, 1) := by decide +kernel
theorem dX4_isSound_102 : decode cX4_isSound 102 = .ok (.iaload, 1) := by decide +kernel
theorem dX4_isSound_103 : decode cX4_isSound 103 = .ok (.iconst 5, 1) := by decide +kernel
theorem dX4_isSound_104 : decode cX4_isSound 104 = .ok (.if_icmp .ne 16, 3) := by decide +kernel
theorem dX4_isSound_107 : decode cX4_isSound 107 = .ok (.aload_n 0, 1) := by decide +kernel
theorem dX4_isSound_108 : decode cX4_isSound 108 = .ok (.getfield 22, 3) := by decide +kernel
theorem dX4_isSound_111 : decode cX4_isSound 111 = .ok (.iload_n 2, 1) := by decide +kernel
theorem dX4_isSound_112 : decode cX4_isSound 112 = .ok (.iaload, 1) := by decide +kernel
theorem dX4_isSound_113 : decode cX4_isSound 113 = .ok (.aload_n 0, 1) := by decide +kernel
theorem dX4_isSound_114 : decode cX4_isSound 114 = .ok (.getfield 51, 3) := by decide +kernel
theorem dX4_isSound_117 : decode cX4_isSound 117 = .ok (.if_icmp .ge 7, 3) := by decide +kernel
theorem dX4_isSound_120 : decode cX4_isSound 120 = .ok (.iconst 1, 1) := by decide +kernel
theorem dX4_isSound_121 : decode cX4_isSound 121 = .ok (.goto 4, 3) := by decide +kernel
theorem dX4_isSound_124 : decode cX4_isSound 124 = .ok (.iconst 0, 1) := by decide +kernel
theorem dX4_isSound_125 : decode cX4_isSound 125 = .ok (.istore_n 1, 1) := by decide +kernel
theorem dX4_isSound_126 : decode cX4_isSound 126 = .ok (.iinc 2 1, 3) := by decide +kernel
theorem dX4_isSound_129 : decode cX4_isSound 129 = .ok (.goto (-67), 3) := by decide +kernel
theorem dX4_isSound_132 : decode cX4_isSound 132 = .ok (.iload_n 1, 1) := by decide +kernel
theorem dX4_isSound_133 : decode cX4_isSound 133 = .ok (.ireturn, 1) := by decide +kernel
theorem dX4_forge_0 : decode cX4_forge 0 = .ok (.aload_n 0, 1) := by decide +kernel
theorem dX4_forge_1 : decode cX4_forge 1 = .ok (.aload_n 0, 1) := by decide +kernel
theorem dX4_forge_2 : decode cX4_forge 2 = .ok (.invokevirtual 150, 3) := by decide +kernel
theorem dX4_forge_5 : decode cX4_forge 5 = .ok (.ifCond .eq 7, 3) := by decide +kernel
theorem dX4_forge_8 : decode cX4_forge 8 = .ok (.iconst 0, 1) := by decide +kernel
theorem dX4_forge_9 : decode cX4_forge 9 = .ok (.goto 4, 3) := by decide +kernel
theorem dX4_forge_12 : decode cX4_forge 12 = .ok (.iconst 1, 1) := by decide +kernel
theorem dX4_forge_13 : decode cX4_forge 13 = .ok (.putfield 47, 3) := by decide +kernel
theorem dX4_forge_16 : decode cX4_forge 16 = .ok (.aload_n 0, 1) := by decide +kernel
theorem dX4_forge_17 : decode cX4_forge 17 = .ok (.getfield 47, 3) := by decide +kernel
theorem dX4_forge_20 : decode cX4_forge 20 = .ok (.ifCond .le 5, 3) := by decide +kernel
theorem dX4_forge_23 : decode cX4_forge 23 = .ok (.iconst 0, 1) := by decide +kernel
theorem dX4_forge_24 : decode cX4_forge 24 = .ok (.ireturn, 1) := by decide +kernel
theorem dX4_forge_25 : decode cX4_forge 25 = .ok (.aload_n 0, 1) := by decide +kernel
theorem dX4_forge_26 : decode cX4_forge 26 = .ok (.invokevirtual 154, 3) := by decide +kernel
theorem dX4_forge_29 : decode cX4_forge 29 = .ok (.aload_n 0, 1) := by decide +kernel
theorem dX4_forge_30 : decode cX4_forge 30 = .ok (.iconst 0, 1) := by decide +kernel
theorem dX4_forge_31 : decode cX4_forge 31 = .ok (.putfield 95, 3) := by decide +kernel
theorem dX4_forge_34 : decode cX4_forge 34 = .ok (.aload_n 0, 1) := by decide +kernel
theorem dX4_forge_35 : decode cX4_forge 35 = .ok (.iconst 0, 1) := by decide +kernel
theorem dX4_forge_36 : decode cX4_forge 36 = .ok (.putfield 104, 3) := by decide +kernel
theorem dX4_forge_39 : decode cX4_forge 39 = .ok (.aload_n 0, 1) := by decide +kernel
theorem dX4_forge_40 : decode cX4_forge 40 = .ok (.aload_n 0, 1) := by decide +kernel
theorem dX4_forge_41 : decode cX4_forge 41 = .ok (.getfield 31, 3) := by decide +kernel
theorem dX4_forge_44 : decode cX4_forge 44 = .ok (.aload_n 0, 1) := by decide +kernel
theorem dX4_forge_45 : decode cX4_forge 45 = .ok (.getfield 51, 3) := by decide +kernel
