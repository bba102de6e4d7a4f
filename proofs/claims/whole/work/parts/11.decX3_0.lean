theorem dX3_init_0 : decode cX3_init 0 = .ok (.aload_n 0, 1) := by decide +kernel
theorem dX3_init_1 : decode cX3_init 1 = .ok (.invokespecial 1, 3) := by decide +kernel
theorem dX3_init_4 : decode cX3_init 4 = .ok (.aload_n 0, 1) := by decide +kernel
theorem dX3_init_5 : decode cX3_init 5 = .ok (.new 7, 3) := by decide +kernel
theorem dX3_init_8 : decode cX3_init 8 = .ok (.dup, 1) := by decide +kernel
theorem dX3_init_9 : decode cX3_init 9 = .ok (.invokespecial 9, 3) := by decide +kernel
theorem dX3_init_12 : decode cX3_init 12 = .ok (.putfield 10, 3) := by decide +kernel
theorem dX3_init_15 : decode cX3_init 15 = .ok (.aload_n 0, 1) := by decide +kernel
theorem dX3_init_16 : decode cX3_init 16 = .ok (.new 16, 3) := by decide +kernel
theorem dX3_init_19 : decode cX3_init 19 = .ok (.dup, 1) := by decide +kernel
theorem dX3_init_20 : decode cX3_init 20 = .ok (.aload_n 0, 1) := by decide +kernel
theorem dX3_init_21 : decode cX3_init 21 = .ok (.getfield 10, 3) := by decide +kernel
theorem dX3_init_24 : decode cX3_init 24 = .ok (.invokespecial 18, 3) := by decide +kernel
theorem dX3_init_27 : decode cX3_init 27 = .ok (.putfield 21, 3) := by decide +kernel
theorem dX3_init_30 : decode cX3_init 30 = .ok (.aload_n 0, 1) := by decide +kernel
theorem dX3_init_31 : decode cX3_init 31 = .ok (.new 25, 3) := by decide +kernel
theorem dX3_init_34 : decode cX3_init 34 = .ok (.dup, 1) := by decide +kernel
theorem dX3_init_35 : decode cX3_init 35 = .ok (.aload_n 0, 1) := by decide +kernel
theorem dX3_init_36 : decode cX3_init 36 = .ok (.getfield 10, 3) := by decide +kernel
theorem dX3_init_39 : decode cX3_init 39 = .ok (.aload_n 0, 1) := by decide +kernel
theorem dX3_init_40 : decode cX3_init 40 = .ok (.getfield 21, 3) := by decide +kernel
theorem dX3_init_43 : decode cX3_init 43 = .ok (.invokespecial 27, 3) := by decide +kernel
theorem dX3_init_46 : decode cX3_init 46 = .ok (.putfield 30, 3) := by decide +kernel
theorem dX3_init_49 : decode cX3_init 49 = .ok (.return_, 1) := by decide +kernel
theorem dX3_constant_0 : decode cX3_constant 0 = .ok (.iload_n 1, 1) := by decide +kernel
theorem dX3_constant_1 : decode cX3_constant 1 = .ok (.invokestatic 34, 3) := by decide +kernel
theorem dX3_constant_4 : decode cX3_constant 4 = .ok (.aload_n 0, 1) := by decide +kernel
theorem dX3_constant_5 : decode cX3_constant 5 = .ok (.iconst 0, 1) := by decide +kernel
theorem dX3_constant_6 : decode cX3_constant 6 = .ok (.iconst 0, 1) := by decide +kernel
theorem dX3_constant_7 : decode cX3_constant 7 = .ok (.iload_n 1, 1) := by decide +kernel
theorem dX3_constant_8 : decode cX3_constant 8 = .ok (.iconst 0, 1) := by decide +kernel
theorem dX3_constant_9 : decode cX3_constant 9 = .ok (.iconst 0, 1) := by decide +kernel
theorem dX3_constant_10 : decode cX3_constant 10 = .ok (.iload_n 2, 1) := by decide +kernel
theorem dX3_constant_11 : decode cX3_constant 11 = .ok (.invokevirtual 38, 3) := by decide +kernel
theorem dX3_constant_14 : decode cX3_constant 14 = .ok (.ireturn, 1) := by decide +kernel
theorem dX3_compute_0 : decode cX3_compute 0 = .ok (.iload_n 1, 1) := by decide +kernel
theorem dX3_compute_1 : decode cX3_compute 1 = .ok (.ifCond .lt 9, 3) := by decide +kernel
theorem dX3_compute_4 : decode cX3_compute 4 = .ok (.iload_n 1, 1) := by decide +kernel
theorem dX3_compute_5 : decode cX3_compute 5 = .ok (.bipush 7, 2) := by decide +kernel
theorem dX3_compute_7 : decode cX3_compute 7 = .ok (.if_icmp .le 13, 3) := by decide +kernel
theorem dX3_compute_10 : decode cX3_compute 10 = .ok (.new 42, 3) := by decide +kernel
theorem dX3_compute_13 : decode cX3_compute 13 = .ok (.dup, 1) := by decide +kernel
theorem dX3_compute_14 : decode cX3_compute 14 = .ok (.ldc 44, 2) := by decide +kernel
theorem dX3_compute_16 : decode cX3_compute 16 = .ok (.invokespecial 46, 3) := by decide +kernel
theorem dX3_compute_19 : decode cX3_compute 19 = .ok (.athrow, 1) := by decide +kernel
theorem dX3_compute_20 : decode cX3_compute 20 = .ok (.iload_n 2, 1) := by decide +kernel
theorem dX3_compute_21 : decode cX3_compute 21 = .ok (.invokestatic 34, 3) := by decide +kernel
theorem dX3_compute_24 : decode cX3_compute 24 = .ok (.iload_n 3, 1) := by decide +kernel
theorem dX3_compute_25 : decode cX3_compute 25 = .ok (.invokestatic 34, 3) := by decide +kernel
theorem dX3_compute_28 : decode cX3_compute 28 = .ok (.iload 4, 2) := by decide +kernel
theorem dX3_compute_30 : decode cX3_compute 30 = .ok (.invokestatic 34, 3) := by decide +kernel
theorem dX3_compute_33 : decode cX3_compute 33 = .ok (.aload_n 0, 1) := by decide +kernel
theorem dX3_compute_34 : decode cX3_compute 34 = .ok (.iconst 1, 1) := by decide +kernel
theorem dX3_compute_35 : decode cX3_compute 35 = .ok (.iload_n 1, 1) := by decide +kernel
theorem dX3_compute_36 : decode cX3_compute 36 = .ok (.iload_n 2, 1) := by decide +kernel
theorem dX3_compute_37 : decode cX3_compute 37 = .ok (.iload_n 3, 1) := by decide +kernel
theorem dX3_compute_38 : decode cX3_compute 38 = .ok (.iload 4, 2) := by decide +kernel
theorem dX3_compute_40 : decode cX3_compute 40 = .ok (.iconst 0, 1) := by decide +kernel
theorem dX3_compute_41 : decode cX3_compute 41 = .ok (.invokevirtual 38, 3) := by decide +kernel
theorem dX3_compute_44 : decode cX3_compute 44 = .ok (.ireturn, 1) := by decide +kernel
theorem dX3_load_0 : decode cX3_load 0 = .ok (.iload_n 1, 1) := by decide +kernel
theorem dX3_load_1 : decode cX3_load 1 = .ok (.invokestatic 34, 3) := by decide +kernel
theorem dX3_load_4 : decode cX3_load 4 = .ok (.iload_n 2, 1) := by decide +kernel
theorem dX3_load_5 : decode cX3_load 5 = .ok (.invokestatic 34, 3) := by decide +kernel
theorem dX3_load_8 : decode cX3_load 8 = .ok (.aload_n 0, 1) := by decide +kernel
theorem dX3_load_9 : decode cX3_load 9 = .ok (.iconst 2, 1) := by decide +kernel
theorem dX3_load_10 : decode cX3_load 10 = .ok (.iconst 0, 1) := by decide +kernel
theorem dX3_load_11 : decode cX3_load 11 = .ok (.iload_n 1, 1) := by decide +kernel
theorem dX3_load_12 : decode cX3_load 12 = .ok (.iload_n 2, 1) := by decide +kernel
theorem dX3_load_13 : decode cX3_load 13 = .ok (.iconst 0, 1) := by decide +kernel
theorem dX3_load_14 : decode cX3_load 14 = .ok (.iconst 0, 1) := by decide +kernel
theorem dX3_load_15 : decode cX3_load 15 = .ok (.invokevirtual 38, 3) := by decide +kernel
theorem dX3_load_18 : decode cX3_load 18 = .ok (.ireturn, 1) := by decide +kernel
theorem dX3_store_0 : decode cX3_store 0 = .ok (.iload_n 1, 1) := by decide +kernel
theorem dX3_store_1 : decode cX3_store 1 = .ok (.invokestatic 34, 3) := by decide +kernel
theorem dX3_store_4 : decode cX3_store 4 = .ok (.iload_n 2, 1) := by decide +kernel
theorem dX3_store_5 : decode cX3_store 5 = .ok (.invokestatic 34, 3) := by decide +kernel
theorem dX3_store_8 : decode cX3_store 8 = .ok (.aload_n 0, 1) := by decide +kernel
theorem dX3_store_9 : decode cX3_store 9 = .ok (.iconst 3, 1) := by decide +kernel
theorem dX3_store_10 : decode cX3_store 10 = .ok (.iconst 0, 1) := by decide +kernel
theorem dX3_store_11 : decode cX3_store 11 = .ok (.iconst 0, 1) := by decide +kernel
theorem dX3_store_12 : decode cX3_store 12 = .ok (.iload_n 1, 1) := by decide +kernel
theorem dX3_store_13 : decode cX3_store 13 = .ok (.iload_n 2, 1) := by decide +kernel
theorem dX3_store_14 : decode cX3_store 14 = .ok (.iconst 0, 1) := by decide +kernel
theorem dX3_store_15 : decode cX3_store 15 = .ok (.invokevirtual 38, 3) := by decide +kernel
theorem dX3_store_18 : decode cX3_store 18 = .ok (.ireturn, 1) := by decide +kernel
theorem dX3_jump_0 : decode cX3_jump 0 = .ok (.iload_n 1, 1) := by decide +kernel
theorem dX3_jump_1 : decode cX3_jump 1 = .ok (.invokestatic 49, 3) := by decide +kernel
theorem dX3_jump_4 : decode cX3_jump 4 = .ok (.aload_n 0, 1) := by decide +kernel
theorem dX3_jump_5 : decode cX3_jump 5 = .ok (.iconst 4, 1) := by decide +kernel
theorem dX3_jump_6 : decode cX3_jump 6 = .ok (.iconst 0, 1) := by decide +kernel
theorem dX3_jump_7 : decode cX3_jump 7 = .ok (.iconst 0, 1) := by decide +kernel
theorem dX3_jump_8 : decode cX3_jump 8 = .ok (.iconst 0, 1) := by decide +kernel
theorem dX3_jump_9 : decode cX3_jump 9 = .ok (.iconst 0, 1) := by decide +kernel
theorem dX3_jump_10 : decode cX3_jump 10 = .ok (.iload_n 1, 1) := by decide +kernel
theorem dX3_jump_11 : decode cX3_jump 11 = .ok (.invokevirtual 38, 3) := by decide +kernel
theorem dX3_jump_14 : decode cX3_jump 14 = .ok (.ireturn, 1) := by decide +kernel
theorem dX3_branch_0 : decode cX3_branch 0 = .ok (.iload_n 1, 1) := by decide +kernel
theorem dX3_branch_1 : decode cX3_branch 1 = .ok (.invokestatic 52, 3) := by decide +kernel
theorem dX3_branch_4 : decode cX3_branch 4 = .ok (.ifCond .ne 13, 3) := by decide +kernel
theorem dX3_branch_7 : decode cX3_branch 7 = .ok (.new 42, 3) := by decide +kernel
theorem dX3_branch_10 : decode cX3_branch 10 = .ok (.dup, 1) := by decide +kernel
theorem dX3_branch_11 : decode cX3_branch 11 = .ok (.ldc 56, 2) := by decide +kernel
theorem dX3_branch_13 : decode cX3_branch 13 = .ok (.invokespecial 46, 3) := by decide +kernel
theorem dX3_branch_16 : decode cX3_branch 16 = .ok (.athrow, 1) := by decide +kernel
theorem dX3_branch_17 : decode cX3_branch 17 = .ok (.iload_n 2, 1) := by decide +kernel
theorem dX3_branch_18 : decode cX3_branch 18 = .ok (.invokestatic 34, 3) := by decide +kernel
theorem dX3_branch_21 : decode cX3_branch 21 = .ok (.iload_n 3, 1) := by decide +kernel
theorem dX3_branch_22 : decode cX3_branch 22 = .ok (.invokestatic 34, 3) := by decide +kernel
theorem dX3_branch_25 : decode cX3_branch 25 = .ok (.iload 4, 2) := by decide +kernel
theorem dX3_branch_27 : decode cX3_branch 27 = .ok (.invokestatic 49, 3) := by decide +kernel
theorem dX3_branch_30 : decode cX3_branch 30 = .ok (.aload_n 0, 1) := by decide +kernel
theorem dX3_branch_31 : decode cX3_branch 31 = .ok (.iconst 5, 1) := by decide +kernel
theorem dX3_branch_32 : decode cX3_branch 32 = .ok (.iload_n 1, 1) := by decide +kernel
theorem dX3_branch_33 : decode cX3_branch 33 = .ok (.iconst 0, 1) := by decide +kernel
theorem dX3_branch_34 : decode cX3_branch 34 = .ok (.iload_n 2, 1) := by decide +kernel
theorem dX3_branch_35 : decode cX3_branch 35 = .ok (.iload_n 3, 1) := by decide +kernel
theorem dX3_branch_36 : decode cX3_branch 36 = .ok (.iload 4, 2) := by decide +kernel
theorem dX3_branch_38 : decode cX3_branch 38 = .ok (.invokevirtual 38, 3) := by decide +kernel
theorem dX3_branch_41 : decode cX3_branch 41 = .ok (.ireturn, 1) := by decide +kernel
theorem dX3_out_0 : decode cX3_out 0 = .ok (.iload_n 1, 1) := by decide +kernel
theorem dX3_out_1 : decode cX3_out 1 = .ok (.invokestatic 34, 3) := by decide +kernel
theorem dX3_out_4 : decode cX3_out 4 = .ok (.aload_n 0, 1) := by decide +kernel
theorem dX3_out_5 : decode cX3_out 5 = .ok (.bipush 6, 2) := by decide +kernel
theorem dX3_out_7 : decode cX3_out 7 = .ok (.iconst 0, 1) := by decide +kernel
theorem dX3_out_8 : decode cX3_out 8 = .ok (.iconst 0, 1) := by decide +kernel
theorem dX3_out_9 : decode cX3_out 9 = .ok (.iload_n 1, 1) := by decide +kernel
theorem dX3_out_10 : decode cX3_out 10 = .ok (.iconst 0, 1) := by decide +kernel
theorem dX3_out_11 : decode cX3_out 11 = .ok (.iconst 0, 1) := by decide +kernel
theorem dX3_out_12 : decode cX3_out 12 = .ok (.invokevirtual 38, 3) := by decide +kernel
theorem dX3_out_15 : decode cX3_out 15 = .ok (.ireturn, 1) := by decide +kernel
theorem dX3_stop_0 : decode cX3_stop 0 = .ok (.iload_n 1, 1) := by decide +kernel
theorem dX3_stop_1 : decode cX3_stop 1 = .ok (.iconst (-1), 1) := by decide +kernel
theorem dX3_stop_2 : decode cX3_stop 2 = .ok (.if_icmp .lt 10, 3) := by decide +kernel
theorem dX3_stop_5 : decode cX3_stop 5 = .ok (.iload_n 1, 1) := by decide +kernel
theorem dX3_stop_6 : decode cX3_stop 6 = .ok (.sipush 255, 3) := by decide +kernel
theorem dX3_stop_9 : decode cX3_stop 9 = .ok (.if_icmp .le 13, 3) := by decide +kernel
theorem dX3_stop_12 : decode cX3_stop 12 = .ok (.new 42, 3) := by decide +kernel
theorem dX3_stop_15 : decode cX3_stop 15 = .ok (.dup, 1) := by decide +kernel
theorem dX3_stop_16 : decode cX3_stop 16 = .ok (.ldc 58, 2) := by decide +kernel
theorem dX3_stop_18 : decode cX3_stop 18 = .ok (.invokespecial 46, 3) := by decide +kernel
theorem dX3_stop_21 : decode cX3_stop 21 = .ok (.athrow, 1) := by decide +kernel
theorem dX3_stop_22 : decode cX3_stop 22 = .ok (.iload_n 1, 1) := by decide +kernel
theorem dX3_stop_23 : decode cX3_stop 23 = .ok (.iconst (-1), 1) := by decide +kernel
theorem dX3_stop_24 : decode cX3_stop 24 = .ok (.if_icmp .ne 17, 3) := by decide +kernel
theorem dX3_stop_27 : decode cX3_stop 27 = .ok (.aload_n 0, 1) := by decide +kernel
theorem dX3_stop_28 : decode cX3_stop 28 = .ok (.bipush 7, 2) := by decide +kernel
theorem dX3_stop_30 : decode cX3_stop 30 = .ok (.iconst 0, 1) := by decide +kernel
theorem dX3_stop_31 : decode cX3_stop 31 = .ok (.iconst 0, 1) := by decide +kernel
theorem dX3_stop_32 : decode cX3_stop 32 = .ok (.iconst 0, 1) := by decide +kernel
theorem dX3_stop_33 : decode cX3_stop 33 = .ok (.iconst 0, 1) := by decide +kernel
theorem dX3_stop_34 : decode cX3_stop 34 = .ok (.iconst 0, 1) := by decide +kernel
theorem dX3_stop_35 : decode cX3_stop 35 = .ok (.invokevirtual 38, 3) := by decide +kernel
theorem dX3_stop_38 : decode cX3_stop 38 = .ok (.goto 14, 3) := by decide +kernel
theorem dX3_stop_41 : decode cX3_stop 41 = .ok (.aload_n 0, 1) := by decide +kernel
theorem dX3_stop_42 : decode cX3_stop 42 = .ok (.bipush 8, 2) := by decide +kernel
theorem dX3_stop_44 : decode cX3_stop 44 = .ok (.iconst 0, 1) := by decide +kernel
theorem dX3_stop_45 : decode cX3_stop 45 = .ok (.iconst 0, 1) := by decide +kernel
theorem dX3_stop_46 : decode cX3_stop 46 = .ok (.iconst 0, 1) := by decide +kernel
theorem dX3_stop_47 : decode cX3_stop 47 = .ok (.iconst 0, 1) := by decide +kernel
theorem dX3_stop_48 : decode cX3_stop 48 = .ok (.iload_n 1, 1) := by decide +kernel
theorem dX3_stop_49 : decode cX3_stop 49 = .ok (.invokevirtual 38, 3) := by decide +kernel
theorem dX3_stop_52 : decode cX3_stop 52 = .ok (.ireturn, 1) := by decide +kernel
theorem dX3_clear_0 : decode cX3_clear 0 = .ok (.aload_n 0, 1) := by decide +kernel
theorem dX3_clear_1 : decode cX3_clear 1 = .ok (.getfield 10, 3) := by decide +kernel
theorem dX3_clear_4 : decode cX3_clear 4 = .ok (.invokevirtual 60, 3) := by decide +kernel
theorem dX3_clear_7 : decode cX3_clear 7 = .ok (.aload_n 0, 1) := by decide +kernel
theorem dX3_clear_8 : decode cX3_clear 8 = .ok (.invokevirtual 63, 3) := by decide +kernel
theorem dX3_clear_11 : decode cX3_clear 11 = .ok (.return_, 1) := by decide +kernel
theorem dX3_forge_0 : decode cX3_forge 0 = .ok (.aload_n 0, 1) := by decide +kernel
theorem dX3_forge_1 : decode cX3_forge 1 = .ok (.getfield 10, 3) := by decide +kernel
theorem dX3_forge_4 : decode cX3_forge 4 = .ok (.invokevirtual 66, 3) := by decide +kernel
theorem dX3_forge_7 : decode cX3_forge 7 = .ok (.ifCond .ne 13, 3) := by decide +kernel
theorem dX3_forge_10 : decode cX3_forge 10 = .ok (.new 70, 3) := by decide +kernel
theorem dX3_forge_13 : decode cX3_forge 13 = .ok (.dup, 1) := by decide +kernel
theorem dX3_forge_14 : decode cX3_forge 14 = .ok (.ldc 72, 2) := by decide +kernel
theorem dX3_forge_16 : decode cX3_forge 16 = .ok (.invokespecial 74, 3) := by decide +kernel
theorem dX3_forge_19 : decode cX3_forge 19 = .ok (.athrow, 1) := by decide +kernel
theorem dX3_forge_20 : decode cX3_forge 20 = .ok (.aload_n 0, 1) := by decide +kernel
theorem dX3_forge_21 : decode cX3_forge 21 = .ok (.getfield 30, 3) := by decide +kernel
theorem dX3_forge_24 : decode cX3_forge 24 = .ok (.invokevirtual 75, 3) := by decide +kernel
theorem dX3_forge_27 : decode cX3_forge 27 = .ok (.aload_n 0, 1) := by decide +kernel
theorem dX3_forge_28 : decode cX3_forge 28 = .ok (.getfield 21, 3) := by decide +kernel
theorem dX3_forge_31 : decode cX3_forge 31 = .ok (.invokevirtual 78, 3) := by decide +kernel
theorem dX3_forge_34 : decode cX3_forge 34 = .ok (.aload_n 0, 1) := by decide +kernel
theorem dX3_forge_35 : decode cX3_forge 35 = .ok (.getfield 21, 3) := by decide +kernel
theorem dX3_forge_38 : decode cX3_forge 38 = .ok (.getfield 81, 3) := by decide +kernel
theorem dX3_forge_41 : decode cX3_forge 41 = .ok (.ireturn, 1) := by decide +kernel
theorem dX3_halfword_0 : decode cX3_halfword 0 = .ok (.aload_n 0, 1) := by decide +kernel
theorem dX3_halfword_1 : decode cX3_halfword 1 = .ok (.getfield 21, 3) := by decide +kernel
theorem dX3_halfword_4 : decode cX3_halfword 4 = .ok (.getfield 85, 3) := by decide +kernel
theorem dX3_halfword_7 : decode cX3_halfword 7 = .ok (.ifCond .eq 18, 3) := by decide +kernel
theorem dX3_halfword_10 : decode cX3_halfword 10 = .ok (.iload_n 1, 1) := by decide +kernel
theorem dX3_halfword_11 : decode cX3_halfword 11 = .ok (.ifCond .lt 14, 3) := by decide +kernel
theorem dX3_halfword_14 : decode cX3_halfword 14 = .ok (.iload_n 1, 1) := by decide +kernel
theorem dX3_halfword_15 : decode cX3_halfword 15 = .ok (.aload_n 0, 1) := by decide +kernel
theorem dX3_halfword_16 : decode cX3_halfword 16 = .ok (.getfield 21, 3) := by decide +kernel
theorem dX3_halfword_19 : decode cX3_halfword 19 = .ok (.getfield 81, 3) := by decide +kernel
theorem dX3_halfword_22 : decode cX3_halfword 22 = .ok (.if_icmp .lt 13, 3) := by decide +kernel
theorem dX3_halfword_25 : decode cX3_halfword 25 = .ok (.new 89, 3) := by decide +kernel
theorem dX3_halfword_28 : decode cX3_halfword 28 = .ok (.dup, 1) := by decide +kernel
theorem dX3_halfword_29 : decode cX3_halfword 29 = .ok (.ldc 91, 2) := by decide +kernel
theorem dX3_halfword_31 : decode cX3_halfword 31 = .ok (.invokespecial 93, 3) := by decide +kernel
theorem dX3_halfword_34 : decode cX3_halfword 34 = .ok (.athrow, 1) := by decide +kernel
theorem dX3_halfword_35 : decode cX3_halfword 35 = .ok (.aload_n 0, 1) := by decide +kernel
theorem dX3_halfword_36 : decode cX3_halfword 36 = .ok (.getfield 21, 3) := by decide +kernel
theorem dX3_halfword_39 : decode cX3_halfword 39 = .ok (.getfield 94, 3) := by decide +kernel
theorem dX3_halfword_42 : decode cX3_halfword 42 = .ok (.iload_n 1, 1) := by decide +kernel
theorem dX3_halfword_43 : decode cX3_halfword 43 = .ok (.iaload, 1) := by decide +kernel
theorem dX3_halfword_44 : decode cX3_halfword 44 = .ok (.ireturn, 1) := by decide +kernel
theorem dX3_place_0 : decode cX3_place 0 = .ok (.aload_n 0, 1) := by decide +kernel
theorem dX3_place_1 : decode cX3_place 1 = .ok (.getfield 21, 3) := by decide +kernel
theorem dX3_place_4 : decode cX3_place 4 = .ok (.getfield 85, 3) := by decide +kernel
theorem dX3_place_7 : decode cX3_place 7 = .ok (.ifCond .eq 18, 3) := by decide +kernel
theorem dX3_place_10 : decode cX3_place 10 = .ok (.iload_n 1, 1) := by decide +kernel
theorem dX3_place_11 : decode cX3_place 11 = .ok (.ifCond .lt 14, 3) := by decide +kernel
theorem dX3_place_14 : decode cX3_place 14 = .ok (.iload_n 1, 1) := by decide +kernel
theorem dX3_place_15 : decode cX3_place 15 = .ok (.aload_n 0, 1) := by decide +kernel
theorem dX3_place_16 : decode cX3_place 16 = .ok (.getfield 10, 3) := by decide +kernel
theorem dX3_place_19 : decode cX3_place 19 = .ok (.getfield 98, 3) := by decide +kernel
theorem dX3_place_22 : decode cX3_place 22 = .ok (.if_icmp .lt 13, 3) := by decide +kernel
theorem dX3_place_25 : decode cX3_place 25 = .ok (.new 89, 3) := by decide +kernel
theorem dX3_place_28 : decode cX3_place 28 = .ok (.dup, 1) := by decide +kernel
theorem dX3_place_29 : decode cX3_place 29 = .ok (.ldc 101, 2) := by decide +kernel
theorem dX3_place_31 : decode cX3_place 31 = .ok (.invokespecial 93, 3) := by decide +kernel
theorem dX3_place_34 : decode cX3_place 34 = .ok (.athrow, 1) := by decide +kernel
theorem dX3_place_35 : decode cX3_place 35 = .ok (.aload_n 0, 1) := by decide +kernel
theorem dX3_place_36 : decode cX3_place 36 = .ok (.getfield 21, 3) := by decide +kernel
theorem dX3_place_39 : decode cX3_place 39 = .ok (.getfield 103, 3) := by decide +kernel
theorem dX3_place_42 : decode cX3_place 42 = .ok (.iload_n 1, 1) := by decide +kernel
theorem dX3_place_43 : decode cX3_place 43 = .ok (.iaload, 1) := by decide +kernel
theorem dX3_place_44 : decode cX3_place 44 = .ok (.ireturn, 1) := by decide +kernel
theorem dX3_poke_0 : decode cX3_poke 0 = .ok (.iload_n 1, 1) := by decide +kernel
theorem dX3_poke_1 : decode cX3_poke 1 = .ok (.invokestatic 106, 3) := by decide +kernel
theorem dX3_poke_4 : decode cX3_poke 4 = .ok (.aload_n 0, 1) := by decide +kernel
theorem dX3_poke_5 : decode cX3_poke 5 = .ok (.getfield 30, 3) := by decide +kernel
theorem dX3_poke_8 : decode cX3_poke 8 = .ok (.getfield 109, 3) := by decide +kernel
theorem dX3_poke_11 : decode cX3_poke 11 = .ok (.iload_n 1, 1) := by decide +kernel
theorem dX3_poke_12 : decode cX3_poke 12 = .ok (.iload_n 2, 1) := by decide +kernel
theorem dX3_poke_13 : decode cX3_poke 13 = .ok (.iastore, 1) := by decide +kernel
theorem dX3_poke_14 : decode cX3_poke 14 = .ok (.return_, 1) := by decide +kernel
theorem dX3_memory_0 : decode cX3_memory 0 = .ok (.iload_n 1, 1) := by decide +kernel
theorem dX3_memory_1 : decode cX3_memory 1 = .ok (.invokestatic 106, 3) := by decide +kernel
theorem dX3_memory_4 : decode cX3_memory 4 = .ok (.aload_n 0, 1) := by decide +kernel
theorem dX3_memory_5 : decode cX3_memory 5 = .ok (.getfield 30, 3) := by decide +kernel
theorem dX3_memory_8 : decode cX3_memory 8 = .ok (.getfield 109, 3) := by decide +kernel
theorem dX3_memory_11 : decode cX3_memory 11 = .ok (.iload_n 1, 1) := by decide +kernel
theorem dX3_memory_12 : decode cX3_memory 12 = .ok (.iaload, 1) := by decide +kernel
theorem dX3_memory_13 : decode cX3_memory 13 = .ok (.ireturn, 1) := by decide +kernel
theorem dX3_start_0 : decode cX3_start 0 = .ok (.aload_n 0, 1) := by decide +kernel
theorem dX3_start_1 : decode cX3_start 1 = .ok (.getfield 21, 3) := by decide +kernel
theorem dX3_start_4 : decode cX3_start 4 = .ok (.getfield 85, 3) := by decide +kernel
theorem dX3_start_7 : decode cX3_start 7 = .ok (.ifCond .ne 13, 3) := by decide +kernel
theorem dX3_start_10 : decode cX3_start 10 = .ok (.new 70, 3) := by decide +kernel
theorem dX3_start_13 : decode cX3_start 13 = .ok (.dup, 1) := by decide +kernel
theorem dX3_start_14 : decode cX3_start 14 = .ok (.ldc 112, 2) := by decide +kernel
theorem dX3_start_16 : decode cX3_start 16 = .ok (.invokespecial 74, 3) := by decide +kernel
theorem dX3_start_19 : decode cX3_start 19 = .ok (.athrow, 1) := by decide +kernel
theorem dX3_start_20 : decode cX3_start 20 = .ok (.aload_n 0, 1) := by decide +kernel
theorem dX3_start_21 : decode cX3_start 21 = .ok (.getfield 30, 3) := by decide +kernel
theorem dX3_start_24 : decode cX3_start 24 = .ok (.invokevirtual 114, 3) := by decide +kernel
theorem dX3_start_27 : decode cX3_start 27 = .ok (.return_, 1) := by decide +kernel
theorem dX3_run_0 : decode cX3_run 0 = .ok (.iload_n 1, 1) := by decide +kernel
theorem dX3_run_1 : decode cX3_run 1 = .ok (.ifCond .lt 10, 3) := by decide +kernel
theorem dX3_run_4 : decode cX3_run 4 = .ok (.iload_n 1, 1) := by decide +kernel
theorem dX3_run_5 : decode cX3_run 5 = .ok (.sipush 2000, 3) := by decide +kernel
theorem dX3_run_8 : decode cX3_run 8 = .ok (.if_icmp .le 13, 3) := by decide +kernel
theorem dX3_run_11 : decode cX3_run 11 = .ok (.new 42, 3) := by decide +kernel
theorem dX3_run_14 : decode cX3_run 14 = .ok (.dup, 1) := by decide +kernel
theorem dX3_run_15 : decode cX3_run 15 = .ok (.ldc 117, 2) := by decide +kernel
theorem dX3_run_17 : decode cX3_run 17 = .ok (.invokespecial 46, 3) := by decide +kernel
theorem dX3_run_20 : decode cX3_run 20 = .ok (.athrow, 1) := by decide +kernel
theorem dX3_run_21 : decode cX3_run 21 = .ok (.aload_n 0, 1) := by decide +kernel
theorem dX3_run_22 : decode cX3_run 22 = .ok (.getfield 30, 3) := by decide +kernel
theorem dX3_run_25 : decode cX3_run 25 = .ok (.getfield 119, 3) := by decide +kernel
theorem dX3_run_28 : decode cX3_run 28 = .ok (.iconst 1, 1) := by decide +kernel
theorem dX3_run_29 : decode cX3_run 29 = .ok (.if_icmp .eq 13, 3) := by decide +kernel
theorem dX3_run_32 : decode cX3_run 32 = .ok (.new 70, 3) := by decide +kernel
theorem dX3_run_35 : decode cX3_run 35 = .ok (.dup, 1) := by decide +kernel
theorem dX3_run_36 : decode cX3_run 36 = .ok (.ldc 122, 2) := by decide +kernel
theorem dX3_run_38 : decode cX3_run 38 = .ok (.invokespecial 74, 3) := by decide +kernel
theorem dX3_run_41 : decode cX3_run 41 = .ok (.athrow, 1) := by decide +kernel
theorem dX3_run_42 : decode cX3_run 42 = .ok (.aload_n 0, 1) := by decide +kernel
theorem dX3_run_43 : decode cX3_run 43 = .ok (.getfield 30, 3) := by decide +kernel
theorem dX3_run_46 : decode cX3_run 46 = .ok (.iload_n 1, 1) := by decide +kernel
theorem dX3_run_47 : decode cX3_run 47 = .ok (.invokevirtual 124, 3) := by decide +kernel
theorem dX3_run_50 : decode cX3_run 50 = .ok (.ireturn, 1) := by decide +kernel
theorem dX3_state_0 : decode cX3_state 0 = .ok (.aload_n 0, 1) := by decide +kernel
theorem dX3_state_1 : decode cX3_state 1 = .ok (.getfield 30, 3) := by decide +kernel
theorem dX3_state_4 : decode cX3_state 4 = .ok (.getfield 119, 3) := by decide +kernel
theorem dX3_state_7 : decode cX3_state 7 = .ok (.iconst 3, 1) := by decide +kernel
theorem dX3_state_8 : decode cX3_state 8 = .ok (.if_icmp .ne 17, 3) := by decide +kernel
theorem dX3_state_11 : decode cX3_state 11 = .ok (.iconst 3, 1) := by decide +kernel
theorem dX3_state_12 : decode cX3_state 12 = .ok (.iconst 4, 1) := by decide +kernel
theorem dX3_state_13 : decode cX3_state 13 = .ok (.aload_n 0, 1) := by decide +kernel
theorem dX3_state_14 : decode cX3_state 14 = .ok (.getfield 30, 3) := by decide +kernel
theorem dX3_state_17 : decode cX3_state 17 = .ok (.getfield 128, 3) := by decide +kernel
theorem dX3_state_20 : decode cX3_state 20 = .ok (.imul, 1) := by decide +kernel
theorem dX3_state_21 : decode cX3_state 21 = .ok (.iadd, 1) := by decide +kernel
theorem dX3_state_22 : decode cX3_state 22 = .ok (.goto 10, 3) := by decide +kernel
theorem dX3_state_25 : decode cX3_state 25 = .ok (.aload_n 0, 1) := by decide +kernel
theorem dX3_state_26 : decode cX3_state 26 = .ok (.getfield 30, 3) := by decide +kernel
theorem dX3_state_29 : decode cX3_state 29 = .ok (.getfield 119, 3) := by decide +kernel
theorem dX3_state_32 : decode cX3_state 32 = .ok (.ireturn, 1) := by decide +kernel
theorem dX3_at_0 : decode cX3_at 0 = .ok (.aload_n 0, 1) := by decide +kernel
theorem dX3_at_1 : decode cX3_at 1 = .ok (.getfield 30, 3) := by decide +kernel
theorem dX3_at_4 : decode cX3_at 4 = .ok (.getfield 119, 3) := by decide +kernel
theorem dX3_at_7 : decode cX3_at 7 = .ok (.ifCond .ne 7, 3) := by decide +kernel
theorem dX3_at_10 : decode cX3_at 10 = .ok (.iconst (-1), 1) := by decide +kernel
theorem dX3_at_11 : decode cX3_at 11 = .ok (.goto 10, 3) := by decide +kernel
theorem dX3_at_14 : decode cX3_at 14 = .ok (.aload_n 0, 1) := by decide +kernel
theorem dX3_at_15 : decode cX3_at 15 = .ok (.getfield 30, 3) := by decide +kernel
theorem dX3_at_18 : decode cX3_at 18 = .ok (.getfield 131, 3) := by decide +kernel
theorem dX3_at_21 : decode cX3_at 21 = .ok (.ireturn, 1) := by decide +kernel
theorem dX3_variable_0 : decode cX3_variable 0 = .ok (.iload_n 1, 1) := by decide +kernel
theorem dX3_variable_1 : decode cX3_variable 1 = .ok (.invokestatic 34, 3) := by decide +kernel
theorem dX3_variable_4 : decode cX3_variable 4 = .ok (.aload_n 0, 1) := by decide +kernel
theorem dX3_variable_5 : decode cX3_variable 5 = .ok (.getfield 30, 3) := by decide +kernel
theorem dX3_variable_8 : decode cX3_variable 8 = .ok (.getfield 119, 3) := by decide +kernel
theorem dX3_variable_11 : decode cX3_variable 11 = .ok (.ifCond .ne 13, 3) := by decide +kernel
theorem dX3_variable_14 : decode cX3_variable 14 = .ok (.new 70, 3) := by decide +kernel
theorem dX3_variable_17 : decode cX3_variable 17 = .ok (.dup, 1) := by decide +kernel
theorem dX3_variable_18 : decode cX3_variable 18 = .ok (.ldc 134, 2) := by decide +kernel
theorem dX3_variable_20 : decode cX3_variable 20 = .ok (.invokespecial 74, 3) := by decide +kernel
theorem dX3_variable_23 : decode cX3_variable 23 = .ok (.athrow, 1) := by decide +kernel
theorem dX3_variable_24 : decode cX3_variable 24 = .ok (.aload_n 0, 1) := by decide +kernel
theorem dX3_variable_25 : decode cX3_variable 25 = .ok (.getfield 30, 3) := by decide +kernel
theorem dX3_variable_28 : decode cX3_variable 28 = .ok (.getfield 136, 3) := by decide +kernel
theorem dX3_variable_31 : decode cX3_variable 31 = .ok (.iload_n 1, 1) := by decide +kernel
theorem dX3_variable_32 : decode cX3_variable 32 = .ok (.iaload, 1) := by decide +kernel
theorem dX3_variable_33 : decode cX3_variable 33 = .ok (.ireturn, 1) := by decide +kernel
theorem dX3_outputs_0 : decode cX3_outputs 0 = .ok (.aload_n 0, 1) := by decide +kernel
theorem dX3_outputs_1 : decode cX3_outputs 1 = .ok (.getfield 30, 3) := by decide +kernel
theorem dX3_outputs_4 : decode cX3_outputs 4 = .ok (.getfield 139, 3) := by decide +kernel
theorem dX3_outputs_7 : decode cX3_outputs 7 = .ok (.ireturn, 1) := by decide +kernel
theorem dX3_output_0 : decode cX3_output 0 = .ok (.aload_n 0, 1) := by decide +kernel
theorem dX3_output_1 : decode cX3_output 1 = .ok (.getfield 30, 3) := by decide +kernel
theorem dX3_output_4 : decode cX3_output 4 = .ok (.iload_n 1, 1) := by decide +kernel
theorem dX3_output_5 : decode cX3_output 5 = .ok (.invokevirtual 142, 3) := by decide +kernel
theorem dX3_output_8 : decode cX3_output 8 = .ok (.ifCond .ne 13, 3) := by decide +kernel
theorem dX3_output_11 : decode cX3_output 11 = .ok (.new 89, 3) := by decide +kernel
theorem dX3_output_14 : decode cX3_output 14 = .ok (.dup, 1) := by decide +kernel
theorem dX3_output_15 : decode cX3_output 15 = .ok (.ldc 145, 2) := by decide +kernel
theorem dX3_output_17 : decode cX3_output 17 = .ok (.invokespecial 93, 3) := by decide +kernel
theorem dX3_output_20 : decode cX3_output 20 = .ok (.athrow, 1) := by decide +kernel
theorem dX3_output_21 : decode cX3_output 21 = .ok (.aload_n 0, 1) := by decide +kernel
theorem dX3_output_22 : decode cX3_output 22 = .ok (.getfield 30, 3) := by decide +kernel
theorem dX3_output_25 : decode cX3_output 25 = .ok (.iload_n 1, 1) := by decide +kernel
theorem dX3_output_26 : decode cX3_output 26 = .ok (.invokevirtual 147, 3) := by decide +kernel
theorem dX3_output_29 : decode cX3_output 29 = .ok (.ireturn, 1) := by decide +kernel
theorem dX3_append_0 : decode cX3_append 0 = .ok (.aload_n 0, 1) := by decide +kernel
theorem dX3_append_1 : decode cX3_append 1 = .ok (.getfield 10, 3) := by decide +kernel
theorem dX3_append_4 : decode cX3_append 4 = .ok (.getfield 98, 3) := by decide +kernel
theorem dX3_append_7 : decode cX3_append 7 = .ok (.bipush 48, 2) := by decide +kernel
theorem dX3_append_9 : decode cX3_append 9 = .ok (.if_icmp .lt 13, 3) := by decide +kernel
theorem dX3_append_12 : decode cX3_append 12 = .ok (.new 70, 3) := by decide +kernel
theorem dX3_append_15 : decode cX3_append 15 = .ok (.dup, 1) := by decide +kernel
theorem dX3_append_16 : decode cX3_append 16 = .ok (.ldc 150, 2) := by decide +kernel
theorem dX3_append_18 : decode cX3_append 18 = .ok (.invokespecial 74, 3) := by decide +kernel
theorem dX3_append_21 : decode cX3_append 21 = .ok (.athrow, 1) := by decide +kernel
theorem dX3_append_22 : decode cX3_append 22 = .ok (.aload_n 0, 1) := by decide +kernel
theorem dX3_append_23 : decode cX3_append 23 = .ok (.invokevirtual 63, 3) := by decide +kernel
theorem dX3_append_26 : decode cX3_append 26 = .ok (.aload_n 0, 1) := by decide +kernel
theorem dX3_append_27 : decode cX3_append 27 = .ok (.getfield 10, 3) := by decide +kernel
theorem dX3_append_30 : decode cX3_append 30 = .ok (.iload_n 1, 1) := by decide +kernel
theorem dX3_append_31 : decode cX3_append 31 = .ok (.iload_n 2, 1) := by decide +kernel
theorem dX3_append_32 : decode cX3_append 32 = .ok (.iload_n 3, 1) := by decide +kernel
theorem dX3_append_33 : decode cX3_append 33 = .ok (.iload 4, 2) := by decide +kernel
theorem dX3_append_35 : decode cX3_append 35 = .ok (.iload 5, 2) := by decide +kernel
theorem dX3_append_37 : decode cX3_append 37 = .ok (.iload 6, 2) := by decide +kernel
theorem dX3_append_39 : decode cX3_append 39 = .ok (.invokevirtual 152, 3) := by decide +kernel
theorem dX3_append_42 : decode cX3_append 42 = .ok (.ireturn, 1) := by decide +kernel
theorem dX3_discardImage_0 : decode cX3_discardImage 0 = .ok (.aload_n 0, 1) := by decide +kernel
theorem dX3_discardImage_1 : decode cX3_discardImage 1 = .ok (.getfield 21, 3) := by decide +kernel
theorem dX3_discardImage_4 : decode cX3_discardImage 4 = .ok (.iconst 0, 1) := by decide +kernel
theorem dX3_discardImage_5 : decode cX3_discardImage 5 = .ok (.putfield 85, 3) := by decide +kernel
theorem dX3_discardImage_8 : decode cX3_discardImage 8 = .ok (.aload_n 0, 1) := by decide +kernel
theorem dX3_discardImage_9 : decode cX3_discardImage 9 = .ok (.getfield 30, 3) := by decide +kernel
theorem dX3_discardImage_12 : decode cX3_discardImage 12 = .ok (.invokevirtual 75, 3) := by decide +kernel
theorem dX3_discardImage_15 : decode cX3_discardImage 15 = .ok (.return_, 1) := by decide +kernel
theorem dX3_needVariable_0 : decode cX3_needVariable 0 = .ok (.iload_n 0, 1) := by decide +kernel
theorem dX3_needVariable_1 : decode cX3_needVariable 1 = .ok (.ifCond .lt 9, 3) := by decide +kernel
theorem dX3_needVariable_4 : decode cX3_needVariable 4 = .ok (.iload_n 0, 1) := by decide +kernel
theorem dX3_needVariable_5 : decode cX3_needVariable 5 = .ok (.bipush 8, 2) := by decide +kernel
theorem dX3_needVariable_7 : decode cX3_needVariable 7 = .ok (.if_icmp .lt 13, 3) := by decide +kernel
theorem dX3_needVariable_10 : decode cX3_needVariable 10 = .ok (.new 42, 3) := by decide +kernel
theorem dX3_needVariable_13 : decode cX3_needVariable 13 = .ok (.dup, 1) := by decide +kernel
theorem dX3_needVariable_14 : decode cX3_needVariable 14 = .ok (.ldc 155, 2) := by decide +kernel
theorem dX3_needVariable_16 : decode cX3_needVariable 16 = .ok (.invokespecial 46, 3) := by decide +kernel
theorem dX3_needVariable_19 : decode cX3_needVariable 19 = .ok (.athrow, 1) := by decide +kernel
theorem dX3_needVariable_20 : decode cX3_needVariable 20 = .ok (.return_, 1) := by decide +kernel
theorem dX3_needTarget_0 : decode cX3_needTarget 0 = .ok (.iload_n 0, 1) := by decide +kernel
theorem dX3_needTarget_1 : decode cX3_needTarget 1 = .ok (.ifCond .lt 9, 3) := by decide +kernel
theorem dX3_needTarget_4 : decode cX3_needTarget 4 = .ok (.iload_n 0, 1) := by decide +kernel
theorem dX3_needTarget_5 : decode cX3_needTarget 5 = .ok (.bipush 48, 2) := by decide +kernel
theorem dX3_needTarget_7 : decode cX3_needTarget 7 = .ok (.if_icmp .lt 13, 3) := by decide +kernel
theorem dX3_needTarget_10 : decode cX3_needTarget 10 = .ok (.new 42, 3) := by decide +kernel
theorem dX3_needTarget_13 : decode cX3_needTarget 13 = .ok (.dup, 1) := by decide +kernel
theorem dX3_needTarget_14 : decode cX3_needTarget 14 = .ok (.ldc 157, 2) := by decide +kernel
theorem dX3_needTarget_16 : decode cX3_needTarget 16 = .ok (.invokespecial 46, 3) := by decide +kernel
theorem dX3_needTarget_19 : decode cX3_needTarget 19 = .ok (.athrow, 1) := by decide +kernel
theorem dX3_needTarget_20 : decode cX3_needTarget 20 = .ok (.return_, 1) := by decide +kernel
theorem dX3_needWord_0 : decode cX3_needWord 0 = .ok (.iload_n 0, 1) := by decide +kernel
theorem dX3_needWord_1 : decode cX3_needWord 1 = .ok (.ifCond .lt 9, 3) := by decide +kernel
theorem dX3_needWord_4 : decode cX3_needWord 4 = .ok (.iload_n 0, 1) := by decide +kernel
theorem dX3_needWord_5 : decode cX3_needWord 5 = .ok (.bipush 8, 2) := by decide +kernel
theorem dX3_needWord_7 : decode cX3_needWord 7 = .ok (.if_icmp .lt 13, 3) := by decide +kernel
theorem dX3_needWord_10 : decode cX3_needWord 10 = .ok (.new 42, 3) := by decide +kernel
theorem dX3_needWord_13 : decode cX3_needWord 13 = .ok (.dup, 1) := by decide +kernel
theorem dX3_needWord_14 : decode cX3_needWord 14 = .ok (.ldc 159, 2) := by decide +kernel
theorem dX3_needWord_16 : decode cX3_needWord 16 = .ok (.invokespecial 46, 3) := by decide +kernel
theorem dX3_needWord_19 : decode cX3_needWord 19 = .ok (.athrow, 1) := by decide +kernel
theorem dX3_needWord_20 : decode cX3_needWord 20 = .ok (.return_, 1) := by decide +kernel
theorem dX3_isRelation_0 : decode cX3_isRelation 0 = .ok (.iload_n 0, 1) := by decide +kernel
theorem dX3_isRelation_1 : decode cX3_isRelation 1 = .ok (.ifCond .lt 8, 3) := by decide +kernel
theorem dX3_isRelation_4 : decode cX3_isRelation 4 = .ok (.iload_n 0, 1) := by decide +kernel
theorem dX3_isRelation_5 : decode cX3_isRelation 5 = .ok (.iconst 3, 1) := by decide +kernel
theorem dX3_isRelation_6 : decode cX3_isRelation 6 = .ok (.if_icmp .le 15, 3) := by decide +kernel
theorem dX3_isRelation_9 : decode cX3_isRelation 9 = .ok (.iload_n 0, 1) := by decide +kernel
theorem dX3_isRelation_10 : decode cX3_isRelation 10 = .ok (.bipush 8, 2) := by decide +kernel
theorem dX3_isRelation_12 : decode cX3_isRelation 12 = .ok (.if_icmp .lt 13, 3) := by decide +kernel
theorem dX3_isRelation_15 : decode cX3_isRelation 15 = .ok (.iload_n 0, 1) := by decide +kernel
theorem dX3_isRelation_16 : decode cX3_isRelation 16 = .ok (.bipush 13, 2) := by decide +kernel
theorem dX3_isRelation_18 : decode cX3_isRelation 18 = .ok (.if_icmp .gt 7, 3) := by decide +kernel
theorem dX3_isRelation_21 : decode cX3_isRelation 21 = .ok (.iconst 1, 1) := by decide +kernel
theorem dX3_isRelation_22 : decode cX3_isRelation 22 = .ok (.goto 4, 3) := by decide +kernel
theorem dX3_isRelation_25 : decode cX3_isRelation 25 = .ok (.iconst 0, 1) := by decide +kernel
theorem dX3_isRelation_26 : decode cX3_isRelation 26 = .ok (.ireturn, 1) := by decide +kernel
