theorem dX4_forge_48 : decode cX4_forge 48 = .ok (.iaload, 1) := by decide +kernel
theorem dX4_forge_49 : decode cX4_forge 49 = .ok (.aload_n 0, 1) := by decide +kernel
theorem dX4_forge_50 : decode cX4_forge 50 = .ok (.getfield 31, 3) := by decide +kernel
theorem dX4_forge_53 : decode cX4_forge 53 = .ok (.aload_n 0, 1) := by decide +kernel
theorem dX4_forge_54 : decode cX4_forge 54 = .ok (.getfield 51, 3) := by decide +kernel
theorem dX4_forge_57 : decode cX4_forge 57 = .ok (.iaload, 1) := by decide +kernel
theorem dX4_forge_58 : decode cX4_forge 58 = .ok (.iconst 2, 1) := by decide +kernel
theorem dX4_forge_59 : decode cX4_forge 59 = .ok (.irem, 1) := by decide +kernel
theorem dX4_forge_60 : decode cX4_forge 60 = .ok (.iadd, 1) := by decide +kernel
theorem dX4_forge_61 : decode cX4_forge 61 = .ok (.putfield 107, 3) := by decide +kernel
theorem dX4_forge_64 : decode cX4_forge 64 = .ok (.aload_n 0, 1) := by decide +kernel
theorem dX4_forge_65 : decode cX4_forge 65 = .ok (.iconst 3, 1) := by decide +kernel
theorem dX4_forge_66 : decode cX4_forge 66 = .ok (.ldc 157, 2) := by decide +kernel
theorem dX4_forge_68 : decode cX4_forge 68 = .ok (.invokevirtual 110, 3) := by decide +kernel
theorem dX4_forge_71 : decode cX4_forge 71 = .ok (.iconst 0, 1) := by decide +kernel
theorem dX4_forge_72 : decode cX4_forge 72 = .ok (.istore_n 1, 1) := by decide +kernel
theorem dX4_forge_73 : decode cX4_forge 73 = .ok (.iload_n 1, 1) := by decide +kernel
theorem dX4_forge_74 : decode cX4_forge 74 = .ok (.aload_n 0, 1) := by decide +kernel
theorem dX4_forge_75 : decode cX4_forge 75 = .ok (.getfield 51, 3) := by decide +kernel
theorem dX4_forge_78 : decode cX4_forge 78 = .ok (.if_icmp .ge 14, 3) := by decide +kernel
theorem dX4_forge_81 : decode cX4_forge 81 = .ok (.aload_n 0, 1) := by decide +kernel
theorem dX4_forge_82 : decode cX4_forge 82 = .ok (.iload_n 1, 1) := by decide +kernel
theorem dX4_forge_83 : decode cX4_forge 83 = .ok (.invokevirtual 158, 3) := by decide +kernel
theorem dX4_forge_86 : decode cX4_forge 86 = .ok (.iinc 1 1, 3) := by decide +kernel
theorem dX4_forge_89 : decode cX4_forge 89 = .ok (.goto (-16), 3) := by decide +kernel
theorem dX4_forge_92 : decode cX4_forge 92 = .ok (.aload_n 0, 1) := by decide +kernel
theorem dX4_forge_93 : decode cX4_forge 93 = .ok (.getfield 95, 3) := by decide +kernel
theorem dX4_forge_96 : decode cX4_forge 96 = .ok (.iconst 2, 1) := by decide +kernel
theorem dX4_forge_97 : decode cX4_forge 97 = .ok (.irem, 1) := by decide +kernel
theorem dX4_forge_98 : decode cX4_forge 98 = .ok (.iconst 1, 1) := by decide +kernel
theorem dX4_forge_99 : decode cX4_forge 99 = .ok (.if_icmp .ne 8, 3) := by decide +kernel
theorem dX4_forge_102 : decode cX4_forge 102 = .ok (.aload_n 0, 1) := by decide +kernel
theorem dX4_forge_103 : decode cX4_forge 103 = .ok (.iconst 0, 1) := by decide +kernel
theorem dX4_forge_104 : decode cX4_forge 104 = .ok (.invokevirtual 99, 3) := by decide +kernel
theorem dX4_forge_107 : decode cX4_forge 107 = .ok (.iconst 0, 1) := by decide +kernel
theorem dX4_forge_108 : decode cX4_forge 108 = .ok (.istore_n 1, 1) := by decide +kernel
theorem dX4_forge_109 : decode cX4_forge 109 = .ok (.iload_n 1, 1) := by decide +kernel
theorem dX4_forge_110 : decode cX4_forge 110 = .ok (.aload_n 0, 1) := by decide +kernel
theorem dX4_forge_111 : decode cX4_forge 111 = .ok (.getfield 104, 3) := by decide +kernel
theorem dX4_forge_114 : decode cX4_forge 114 = .ok (.if_icmp .ge 35, 3) := by decide +kernel
theorem dX4_forge_117 : decode cX4_forge 117 = .ok (.aload_n 0, 1) := by decide +kernel
theorem dX4_forge_118 : decode cX4_forge 118 = .ok (.aload_n 0, 1) := by decide +kernel
theorem dX4_forge_119 : decode cX4_forge 119 = .ok (.getfield 38, 3) := by decide +kernel
theorem dX4_forge_122 : decode cX4_forge 122 = .ok (.iload_n 1, 1) := by decide +kernel
theorem dX4_forge_123 : decode cX4_forge 123 = .ok (.iaload, 1) := by decide +kernel
theorem dX4_forge_124 : decode cX4_forge 124 = .ok (.ldc 161, 2) := by decide +kernel
theorem dX4_forge_126 : decode cX4_forge 126 = .ok (.iand, 1) := by decide +kernel
theorem dX4_forge_127 : decode cX4_forge 127 = .ok (.invokevirtual 99, 3) := by decide +kernel
theorem dX4_forge_130 : decode cX4_forge 130 = .ok (.aload_n 0, 1) := by decide +kernel
theorem dX4_forge_131 : decode cX4_forge 131 = .ok (.aload_n 0, 1) := by decide +kernel
theorem dX4_forge_132 : decode cX4_forge 132 = .ok (.getfield 38, 3) := by decide +kernel
theorem dX4_forge_135 : decode cX4_forge 135 = .ok (.iload_n 1, 1) := by decide +kernel
theorem dX4_forge_136 : decode cX4_forge 136 = .ok (.iaload, 1) := by decide +kernel
theorem dX4_forge_137 : decode cX4_forge 137 = .ok (.bipush 16, 2) := by decide +kernel
theorem dX4_forge_139 : decode cX4_forge 139 = .ok (.iushr, 1) := by decide +kernel
theorem dX4_forge_140 : decode cX4_forge 140 = .ok (.invokevirtual 99, 3) := by decide +kernel
theorem dX4_forge_143 : decode cX4_forge 143 = .ok (.iinc 1 1, 3) := by decide +kernel
theorem dX4_forge_146 : decode cX4_forge 146 = .ok (.goto (-37), 3) := by decide +kernel
theorem dX4_forge_149 : decode cX4_forge 149 = .ok (.aload_n 0, 1) := by decide +kernel
theorem dX4_forge_150 : decode cX4_forge 150 = .ok (.iconst 1, 1) := by decide +kernel
theorem dX4_forge_151 : decode cX4_forge 151 = .ok (.putfield 54, 3) := by decide +kernel
theorem dX4_forge_154 : decode cX4_forge 154 = .ok (.aload_n 0, 1) := by decide +kernel
theorem dX4_forge_155 : decode cX4_forge 155 = .ok (.iconst 0, 1) := by decide +kernel
theorem dX4_forge_156 : decode cX4_forge 156 = .ok (.putfield 58, 3) := by decide +kernel
theorem dX4_forge_159 : decode cX4_forge 159 = .ok (.aload_n 0, 1) := by decide +kernel
theorem dX4_forge_160 : decode cX4_forge 160 = .ok (.getfield 95, 3) := by decide +kernel
theorem dX4_forge_163 : decode cX4_forge 163 = .ok (.ireturn, 1) := by decide +kernel
theorem dX4_halfword_0 : decode cX4_halfword 0 = .ok (.aload_n 0, 1) := by decide +kernel
theorem dX4_halfword_1 : decode cX4_halfword 1 = .ok (.aload_n 0, 1) := by decide +kernel
theorem dX4_halfword_2 : decode cX4_halfword 2 = .ok (.getfield 54, 3) := by decide +kernel
theorem dX4_halfword_5 : decode cX4_halfword 5 = .ok (.ifCond .eq 19, 3) := by decide +kernel
theorem dX4_halfword_8 : decode cX4_halfword 8 = .ok (.iload_n 1, 1) := by decide +kernel
theorem dX4_halfword_9 : decode cX4_halfword 9 = .ok (.ifCond .lt 15, 3) := by decide +kernel
theorem dX4_halfword_12 : decode cX4_halfword 12 = .ok (.iload_n 1, 1) := by decide +kernel
theorem dX4_halfword_13 : decode cX4_halfword 13 = .ok (.aload_n 0, 1) := by decide +kernel
theorem dX4_halfword_14 : decode cX4_halfword 14 = .ok (.getfield 95, 3) := by decide +kernel
theorem dX4_halfword_17 : decode cX4_halfword 17 = .ok (.if_icmp .ge 7, 3) := by decide +kernel
theorem dX4_halfword_20 : decode cX4_halfword 20 = .ok (.iconst 0, 1) := by decide +kernel
theorem dX4_halfword_21 : decode cX4_halfword 21 = .ok (.goto 4, 3) := by decide +kernel
theorem dX4_halfword_24 : decode cX4_halfword 24 = .ok (.iconst 1, 1) := by decide +kernel
theorem dX4_halfword_25 : decode cX4_halfword 25 = .ok (.putfield 47, 3) := by decide +kernel
theorem dX4_halfword_28 : decode cX4_halfword 28 = .ok (.aload_n 0, 1) := by decide +kernel
theorem dX4_halfword_29 : decode cX4_halfword 29 = .ok (.getfield 47, 3) := by decide +kernel
theorem dX4_halfword_32 : decode cX4_halfword 32 = .ok (.ifCond .le 7, 3) := by decide +kernel
theorem dX4_halfword_35 : decode cX4_halfword 35 = .ok (.iconst 0, 1) := by decide +kernel
theorem dX4_halfword_36 : decode cX4_halfword 36 = .ok (.goto 9, 3) := by decide +kernel
theorem dX4_halfword_39 : decode cX4_halfword 39 = .ok (.aload_n 0, 1) := by decide +kernel
theorem dX4_halfword_40 : decode cX4_halfword 40 = .ok (.getfield 28, 3) := by decide +kernel
theorem dX4_halfword_43 : decode cX4_halfword 43 = .ok (.iload_n 1, 1) := by decide +kernel
theorem dX4_halfword_44 : decode cX4_halfword 44 = .ok (.iaload, 1) := by decide +kernel
theorem dX4_halfword_45 : decode cX4_halfword 45 = .ok (.ireturn, 1) := by decide +kernel
theorem dX4_place_0 : decode cX4_place 0 = .ok (.aload_n 0, 1) := by decide +kernel
theorem dX4_place_1 : decode cX4_place 1 = .ok (.aload_n 0, 1) := by decide +kernel
theorem dX4_place_2 : decode cX4_place 2 = .ok (.getfield 54, 3) := by decide +kernel
theorem dX4_place_5 : decode cX4_place 5 = .ok (.ifCond .eq 19, 3) := by decide +kernel
theorem dX4_place_8 : decode cX4_place 8 = .ok (.iload_n 1, 1) := by decide +kernel
theorem dX4_place_9 : decode cX4_place 9 = .ok (.ifCond .lt 15, 3) := by decide +kernel
theorem dX4_place_12 : decode cX4_place 12 = .ok (.iload_n 1, 1) := by decide +kernel
theorem dX4_place_13 : decode cX4_place 13 = .ok (.aload_n 0, 1) := by decide +kernel
theorem dX4_place_14 : decode cX4_place 14 = .ok (.getfield 51, 3) := by decide +kernel
theorem dX4_place_17 : decode cX4_place 17 = .ok (.if_icmp .ge 7, 3) := by decide +kernel
theorem dX4_place_20 : decode cX4_place 20 = .ok (.iconst 0, 1) := by decide +kernel
theorem dX4_place_21 : decode cX4_place 21 = .ok (.goto 4, 3) := by decide +kernel
theorem dX4_place_24 : decode cX4_place 24 = .ok (.iconst 1, 1) := by decide +kernel
theorem dX4_place_25 : decode cX4_place 25 = .ok (.putfield 47, 3) := by decide +kernel
theorem dX4_place_28 : decode cX4_place 28 = .ok (.aload_n 0, 1) := by decide +kernel
theorem dX4_place_29 : decode cX4_place 29 = .ok (.getfield 47, 3) := by decide +kernel
theorem dX4_place_32 : decode cX4_place 32 = .ok (.ifCond .le 7, 3) := by decide +kernel
theorem dX4_place_35 : decode cX4_place 35 = .ok (.iconst 0, 1) := by decide +kernel
theorem dX4_place_36 : decode cX4_place 36 = .ok (.goto 9, 3) := by decide +kernel
theorem dX4_place_39 : decode cX4_place 39 = .ok (.aload_n 0, 1) := by decide +kernel
theorem dX4_place_40 : decode cX4_place 40 = .ok (.getfield 31, 3) := by decide +kernel
theorem dX4_place_43 : decode cX4_place 43 = .ok (.iload_n 1, 1) := by decide +kernel
theorem dX4_place_44 : decode cX4_place 44 = .ok (.iaload, 1) := by decide +kernel
theorem dX4_place_45 : decode cX4_place 45 = .ok (.ireturn, 1) := by decide +kernel
theorem dX4_poke_0 : decode cX4_poke 0 = .ok (.aload_n 0, 1) := by decide +kernel
theorem dX4_poke_1 : decode cX4_poke 1 = .ok (.iload_n 1, 1) := by decide +kernel
theorem dX4_poke_2 : decode cX4_poke 2 = .ok (.ifCond .lt 13, 3) := by decide +kernel
theorem dX4_poke_5 : decode cX4_poke 5 = .ok (.iload_n 1, 1) := by decide +kernel
theorem dX4_poke_6 : decode cX4_poke 6 = .ok (.bipush 8, 2) := by decide +kernel
theorem dX4_poke_8 : decode cX4_poke 8 = .ok (.if_icmp .ge 7, 3) := by decide +kernel
theorem dX4_poke_11 : decode cX4_poke 11 = .ok (.iconst 0, 1) := by decide +kernel
theorem dX4_poke_12 : decode cX4_poke 12 = .ok (.goto 4, 3) := by decide +kernel
theorem dX4_poke_15 : decode cX4_poke 15 = .ok (.iconst 1, 1) := by decide +kernel
theorem dX4_poke_16 : decode cX4_poke 16 = .ok (.putfield 47, 3) := by decide +kernel
theorem dX4_poke_19 : decode cX4_poke 19 = .ok (.aload_n 0, 1) := by decide +kernel
theorem dX4_poke_20 : decode cX4_poke 20 = .ok (.getfield 47, 3) := by decide +kernel
theorem dX4_poke_23 : decode cX4_poke 23 = .ok (.ifCond .ne 10, 3) := by decide +kernel
theorem dX4_poke_26 : decode cX4_poke 26 = .ok (.aload_n 0, 1) := by decide +kernel
theorem dX4_poke_27 : decode cX4_poke 27 = .ok (.getfield 25, 3) := by decide +kernel
theorem dX4_poke_30 : decode cX4_poke 30 = .ok (.iload_n 1, 1) := by decide +kernel
theorem dX4_poke_31 : decode cX4_poke 31 = .ok (.iload_n 2, 1) := by decide +kernel
theorem dX4_poke_32 : decode cX4_poke 32 = .ok (.iastore, 1) := by decide +kernel
theorem dX4_poke_33 : decode cX4_poke 33 = .ok (.return_, 1) := by decide +kernel
theorem dX4_memory_0 : decode cX4_memory 0 = .ok (.aload_n 0, 1) := by decide +kernel
theorem dX4_memory_1 : decode cX4_memory 1 = .ok (.iload_n 1, 1) := by decide +kernel
theorem dX4_memory_2 : decode cX4_memory 2 = .ok (.ifCond .lt 13, 3) := by decide +kernel
theorem dX4_memory_5 : decode cX4_memory 5 = .ok (.iload_n 1, 1) := by decide +kernel
theorem dX4_memory_6 : decode cX4_memory 6 = .ok (.bipush 8, 2) := by decide +kernel
theorem dX4_memory_8 : decode cX4_memory 8 = .ok (.if_icmp .ge 7, 3) := by decide +kernel
theorem dX4_memory_11 : decode cX4_memory 11 = .ok (.iconst 0, 1) := by decide +kernel
theorem dX4_memory_12 : decode cX4_memory 12 = .ok (.goto 4, 3) := by decide +kernel
theorem dX4_memory_15 : decode cX4_memory 15 = .ok (.iconst 1, 1) := by decide +kernel
theorem dX4_memory_16 : decode cX4_memory 16 = .ok (.putfield 47, 3) := by decide +kernel
theorem dX4_memory_19 : decode cX4_memory 19 = .ok (.aload_n 0, 1) := by decide +kernel
theorem dX4_memory_20 : decode cX4_memory 20 = .ok (.getfield 47, 3) := by decide +kernel
theorem dX4_memory_23 : decode cX4_memory 23 = .ok (.ifCond .le 7, 3) := by decide +kernel
theorem dX4_memory_26 : decode cX4_memory 26 = .ok (.iconst 0, 1) := by decide +kernel
theorem dX4_memory_27 : decode cX4_memory 27 = .ok (.goto 9, 3) := by decide +kernel
theorem dX4_memory_30 : decode cX4_memory 30 = .ok (.aload_n 0, 1) := by decide +kernel
theorem dX4_memory_31 : decode cX4_memory 31 = .ok (.getfield 25, 3) := by decide +kernel
theorem dX4_memory_34 : decode cX4_memory 34 = .ok (.iload_n 1, 1) := by decide +kernel
theorem dX4_memory_35 : decode cX4_memory 35 = .ok (.iaload, 1) := by decide +kernel
theorem dX4_memory_36 : decode cX4_memory 36 = .ok (.ireturn, 1) := by decide +kernel
theorem dX4_start_0 : decode cX4_start 0 = .ok (.aload_n 0, 1) := by decide +kernel
theorem dX4_start_1 : decode cX4_start 1 = .ok (.aload_n 0, 1) := by decide +kernel
theorem dX4_start_2 : decode cX4_start 2 = .ok (.getfield 54, 3) := by decide +kernel
theorem dX4_start_5 : decode cX4_start 5 = .ok (.ifCond .eq 7, 3) := by decide +kernel
theorem dX4_start_8 : decode cX4_start 8 = .ok (.iconst 0, 1) := by decide +kernel
theorem dX4_start_9 : decode cX4_start 9 = .ok (.goto 4, 3) := by decide +kernel
theorem dX4_start_12 : decode cX4_start 12 = .ok (.iconst 1, 1) := by decide +kernel
theorem dX4_start_13 : decode cX4_start 13 = .ok (.putfield 47, 3) := by decide +kernel
theorem dX4_start_16 : decode cX4_start 16 = .ok (.aload_n 0, 1) := by decide +kernel
theorem dX4_start_17 : decode cX4_start 17 = .ok (.getfield 47, 3) := by decide +kernel
theorem dX4_start_20 : decode cX4_start 20 = .ok (.ifCond .le 4, 3) := by decide +kernel
theorem dX4_start_23 : decode cX4_start 23 = .ok (.return_, 1) := by decide +kernel
theorem dX4_start_24 : decode cX4_start 24 = .ok (.aload_n 0, 1) := by decide +kernel
theorem dX4_start_25 : decode cX4_start 25 = .ok (.iconst 1, 1) := by decide +kernel
theorem dX4_start_26 : decode cX4_start 26 = .ok (.putfield 58, 3) := by decide +kernel
theorem dX4_start_29 : decode cX4_start 29 = .ok (.aload_n 0, 1) := by decide +kernel
theorem dX4_start_30 : decode cX4_start 30 = .ok (.iconst 0, 1) := by decide +kernel
theorem dX4_start_31 : decode cX4_start 31 = .ok (.putfield 162, 3) := by decide +kernel
theorem dX4_start_34 : decode cX4_start 34 = .ok (.aload_n 0, 1) := by decide +kernel
theorem dX4_start_35 : decode cX4_start 35 = .ok (.iconst 0, 1) := by decide +kernel
theorem dX4_start_36 : decode cX4_start 36 = .ok (.putfield 165, 3) := by decide +kernel
theorem dX4_start_39 : decode cX4_start 39 = .ok (.iconst 0, 1) := by decide +kernel
theorem dX4_start_40 : decode cX4_start 40 = .ok (.istore_n 1, 1) := by decide +kernel
theorem dX4_start_41 : decode cX4_start 41 = .ok (.iload_n 1, 1) := by decide +kernel
theorem dX4_start_42 : decode cX4_start 42 = .ok (.bipush 8, 2) := by decide +kernel
theorem dX4_start_44 : decode cX4_start 44 = .ok (.if_icmp .ge 16, 3) := by decide +kernel
theorem dX4_start_47 : decode cX4_start 47 = .ok (.aload_n 0, 1) := by decide +kernel
theorem dX4_start_48 : decode cX4_start 48 = .ok (.getfield 41, 3) := by decide +kernel
theorem dX4_start_51 : decode cX4_start 51 = .ok (.iload_n 1, 1) := by decide +kernel
theorem dX4_start_52 : decode cX4_start 52 = .ok (.iconst 0, 1) := by decide +kernel
theorem dX4_start_53 : decode cX4_start 53 = .ok (.iastore, 1) := by decide +kernel
theorem dX4_start_54 : decode cX4_start 54 = .ok (.iinc 1 1, 3) := by decide +kernel
theorem dX4_start_57 : decode cX4_start 57 = .ok (.goto (-16), 3) := by decide +kernel
theorem dX4_start_60 : decode cX4_start 60 = .ok (.return_, 1) := by decide +kernel
theorem dX4_computed_0 : decode cX4_computed 0 = .ok (.iload_n 2, 1) := by decide +kernel
theorem dX4_computed_1 : decode cX4_computed 1 = .ok (.sipush 255, 3) := by decide +kernel
theorem dX4_computed_4 : decode cX4_computed 4 = .ok (.iand, 1) := by decide +kernel
theorem dX4_computed_5 : decode cX4_computed 5 = .ok (.istore_n 3, 1) := by decide +kernel
theorem dX4_computed_6 : decode cX4_computed 6 = .ok (.iload_n 0, 1) := by decide +kernel
theorem dX4_computed_7 : decode cX4_computed 7 = .ok (.tableswitch 79 0 6 #[41, 45, 49, 53, 57, 61, 65], 41) := by decide +kernel
theorem dX4_computed_48 : decode cX4_computed 48 = .ok (.iload_n 1, 1) := by decide +kernel
theorem dX4_computed_49 : decode cX4_computed 49 = .ok (.iload_n 2, 1) := by decide +kernel
theorem dX4_computed_50 : decode cX4_computed 50 = .ok (.iadd, 1) := by decide +kernel
theorem dX4_computed_51 : decode cX4_computed 51 = .ok (.ireturn, 1) := by decide +kernel
theorem dX4_computed_52 : decode cX4_computed 52 = .ok (.iload_n 1, 1) := by decide +kernel
theorem dX4_computed_53 : decode cX4_computed 53 = .ok (.iload_n 2, 1) := by decide +kernel
theorem dX4_computed_54 : decode cX4_computed 54 = .ok (.isub, 1) := by decide +kernel
theorem dX4_computed_55 : decode cX4_computed 55 = .ok (.ireturn, 1) := by decide +kernel
theorem dX4_computed_56 : decode cX4_computed 56 = .ok (.iload_n 1, 1) := by decide +kernel
theorem dX4_computed_57 : decode cX4_computed 57 = .ok (.iload_n 2, 1) := by decide +kernel
theorem dX4_computed_58 : decode cX4_computed 58 = .ok (.imul, 1) := by decide +kernel
theorem dX4_computed_59 : decode cX4_computed 59 = .ok (.ireturn, 1) := by decide +kernel
theorem dX4_computed_60 : decode cX4_computed 60 = .ok (.iload_n 1, 1) := by decide +kernel
theorem dX4_computed_61 : decode cX4_computed 61 = .ok (.iload_n 2, 1) := by decide +kernel
theorem dX4_computed_62 : decode cX4_computed 62 = .ok (.iand, 1) := by decide +kernel
theorem dX4_computed_63 : decode cX4_computed 63 = .ok (.ireturn, 1) := by decide +kernel
theorem dX4_computed_64 : decode cX4_computed 64 = .ok (.iload_n 1, 1) := by decide +kernel
theorem dX4_computed_65 : decode cX4_computed 65 = .ok (.iload_n 2, 1) := by decide +kernel
theorem dX4_computed_66 : decode cX4_computed 66 = .ok (.ior, 1) := by decide +kernel
theorem dX4_computed_67 : decode cX4_computed 67 = .ok (.ireturn, 1) := by decide +kernel
theorem dX4_computed_68 : decode cX4_computed 68 = .ok (.iload_n 1, 1) := by decide +kernel
theorem dX4_computed_69 : decode cX4_computed 69 = .ok (.iload_n 2, 1) := by decide +kernel
theorem dX4_computed_70 : decode cX4_computed 70 = .ok (.ixor, 1) := by decide +kernel
theorem dX4_computed_71 : decode cX4_computed 71 = .ok (.ireturn, 1) := by decide +kernel
theorem dX4_computed_72 : decode cX4_computed 72 = .ok (.iload_n 3, 1) := by decide +kernel
theorem dX4_computed_73 : decode cX4_computed 73 = .ok (.bipush 31, 2) := by decide +kernel
theorem dX4_computed_75 : decode cX4_computed 75 = .ok (.if_icmp .le 7, 3) := by decide +kernel
theorem dX4_computed_78 : decode cX4_computed 78 = .ok (.iconst 0, 1) := by decide +kernel
theorem dX4_computed_79 : decode cX4_computed 79 = .ok (.goto 6, 3) := by decide +kernel
theorem dX4_computed_82 : decode cX4_computed 82 = .ok (.iload_n 1, 1) := by decide +kernel
theorem dX4_computed_83 : decode cX4_computed 83 = .ok (.iload_n 3, 1) := by decide +kernel
theorem dX4_computed_84 : decode cX4_computed 84 = .ok (.ishl, 1) := by decide +kernel
theorem dX4_computed_85 : decode cX4_computed 85 = .ok (.ireturn, 1) := by decide +kernel
theorem dX4_computed_86 : decode cX4_computed 86 = .ok (.iload_n 3, 1) := by decide +kernel
theorem dX4_computed_87 : decode cX4_computed 87 = .ok (.bipush 31, 2) := by decide +kernel
theorem dX4_computed_89 : decode cX4_computed 89 = .ok (.if_icmp .le 7, 3) := by decide +kernel
theorem dX4_computed_92 : decode cX4_computed 92 = .ok (.iconst 0, 1) := by decide +kernel
theorem dX4_computed_93 : decode cX4_computed 93 = .ok (.goto 6, 3) := by decide +kernel
theorem dX4_computed_96 : decode cX4_computed 96 = .ok (.iload_n 1, 1) := by decide +kernel
theorem dX4_computed_97 : decode cX4_computed 97 = .ok (.iload_n 3, 1) := by decide +kernel
theorem dX4_computed_98 : decode cX4_computed 98 = .ok (.iushr, 1) := by decide +kernel
theorem dX4_computed_99 : decode cX4_computed 99 = .ok (.ireturn, 1) := by decide +kernel
theorem dX4_holds_0 : decode cX4_holds 0 = .ok (.iload_n 1, 1) := by decide +kernel
theorem dX4_holds_1 : decode cX4_holds 1 = .ok (.i2l, 1) := by decide +kernel
theorem dX4_holds_2 : decode cX4_holds 2 = .ok (.ldc2_w 168, 3) := by decide +kernel
theorem dX4_holds_5 : decode cX4_holds 5 = .ok (.land, 1) := by decide +kernel
theorem dX4_holds_6 : decode cX4_holds 6 = .ok (.lstore_n 3, 1) := by decide +kernel
theorem dX4_holds_7 : decode cX4_holds 7 = .ok (.iload_n 2, 1) := by decide +kernel
theorem dX4_holds_8 : decode cX4_holds 8 = .ok (.i2l, 1) := by decide +kernel
theorem dX4_holds_9 : decode cX4_holds 9 = .ok (.ldc2_w 168, 3) := by decide +kernel
theorem dX4_holds_12 : decode cX4_holds 12 = .ok (.land, 1) := by decide +kernel
theorem dX4_holds_13 : decode cX4_holds 13 = .ok (.lstore 5, 2) := by decide +kernel
theorem dX4_holds_15 : decode cX4_holds 15 = .ok (.iload_n 0, 1) := by decide +kernel
theorem dX4_holds_16 : decode cX4_holds 16 = .ok (.tableswitch 175 0 12 #[68, 79, 90, 103, 175, 175, 175, 175, 116, 129, 142, 153, 164], 68) := by decide +kernel
theorem dX4_holds_84 : decode cX4_holds 84 = .ok (.iload_n 1, 1) := by decide +kernel
theorem dX4_holds_85 : decode cX4_holds 85 = .ok (.iload_n 2, 1) := by decide +kernel
theorem dX4_holds_86 : decode cX4_holds 86 = .ok (.if_icmp .ne 7, 3) := by decide +kernel
theorem dX4_holds_89 : decode cX4_holds 89 = .ok (.iconst 1, 1) := by decide +kernel
theorem dX4_holds_90 : decode cX4_holds 90 = .ok (.goto 4, 3) := by decide +kernel
theorem dX4_holds_93 : decode cX4_holds 93 = .ok (.iconst 0, 1) := by decide +kernel
theorem dX4_holds_94 : decode cX4_holds 94 = .ok (.ireturn, 1) := by decide +kernel
theorem dX4_holds_95 : decode cX4_holds 95 = .ok (.iload_n 1, 1) := by decide +kernel
theorem dX4_holds_96 : decode cX4_holds 96 = .ok (.iload_n 2, 1) := by decide +kernel
theorem dX4_holds_97 : decode cX4_holds 97 = .ok (.if_icmp .eq 7, 3) := by decide +kernel
theorem dX4_holds_100 : decode cX4_holds 100 = .ok (.iconst 1, 1) := by decide +kernel
theorem dX4_holds_101 : decode cX4_holds 101 = .ok (.goto 4, 3) := by decide +kernel
theorem dX4_holds_104 : decode cX4_holds 104 = .ok (.iconst 0, 1) := by decide +kernel
theorem dX4_holds_105 : decode cX4_holds 105 = .ok (.ireturn, 1) := by decide +kernel
theorem dX4_holds_106 : decode cX4_holds 106 = .ok (.lload_n 3, 1) := by decide +kernel
theorem dX4_holds_107 : decode cX4_holds 107 = .ok (.lload 5, 2) := by decide +kernel
theorem dX4_holds_109 : decode cX4_holds 109 = .ok (.lcmp, 1) := by decide +kernel
theorem dX4_holds_110 : decode cX4_holds 110 = .ok (.ifCond .lt 7, 3) := by decide +kernel
theorem dX4_holds_113 : decode cX4_holds 113 = .ok (.iconst 1, 1) := by decide +kernel
theorem dX4_holds_114 : decode cX4_holds 114 = .ok (.goto 4, 3) := by decide +kernel
theorem dX4_holds_117 : decode cX4_holds 117 = .ok (.iconst 0, 1) := by decide +kernel
theorem dX4_holds_118 : decode cX4_holds 118 = .ok (.ireturn, 1) := by decide +kernel
theorem dX4_holds_119 : decode cX4_holds 119 = .ok (.lload_n 3, 1) := by decide +kernel
theorem dX4_holds_120 : decode cX4_holds 120 = .ok (.lload 5, 2) := by decide +kernel
theorem dX4_holds_122 : decode cX4_holds 122 = .ok (.lcmp, 1) := by decide +kernel
theorem dX4_holds_123 : decode cX4_holds 123 = .ok (.ifCond .ge 7, 3) := by decide +kernel
theorem dX4_holds_126 : decode cX4_holds 126 = .ok (.iconst 1, 1) := by decide +kernel
theorem dX4_holds_127 : decode cX4_holds 127 = .ok (.goto 4, 3) := by decide +kernel
theorem dX4_holds_130 : decode cX4_holds 130 = .ok (.iconst 0, 1) := by decide +kernel
theorem dX4_holds_131 : decode cX4_holds 131 = .ok (.ireturn, 1) := by decide +kernel
theorem dX4_holds_132 : decode cX4_holds 132 = .ok (.lload_n 3, 1) := by decide +kernel
theorem dX4_holds_133 : decode cX4_holds 133 = .ok (.lload 5, 2) := by decide +kernel
theorem dX4_holds_135 : decode cX4_holds 135 = .ok (.lcmp, 1) := by decide +kernel
theorem dX4_holds_136 : decode cX4_holds 136 = .ok (.ifCond .le 7, 3) := by decide +kernel
theorem dX4_holds_139 : decode cX4_holds 139 = .ok (.iconst 1, 1) := by decide +kernel
theorem dX4_holds_140 : decode cX4_holds 140 = .ok (.goto 4, 3) := by decide +kernel
theorem dX4_holds_143 : decode cX4_holds 143 = .ok (.iconst 0, 1) := by decide +kernel
theorem dX4_holds_144 : decode cX4_holds 144 = .ok (.ireturn, 1) := by decide +kernel
theorem dX4_holds_145 : decode cX4_holds 145 = .ok (.lload_n 3, 1) := by decide +kernel
theorem dX4_holds_146 : decode cX4_holds 146 = .ok (.lload 5, 2) := by decide +kernel
theorem dX4_holds_148 : decode cX4_holds 148 = .ok (.lcmp, 1) := by decide +kernel
theorem dX4_holds_149 : decode cX4_holds 149 = .ok (.ifCond .gt 7, 3) := by decide +kernel
theorem dX4_holds_152 : decode cX4_holds 152 = .ok (.iconst 1, 1) := by decide +kernel
theorem dX4_holds_153 : decode cX4_holds 153 = .ok (.goto 4, 3) := by decide +kernel
theorem dX4_holds_156 : decode cX4_holds 156 = .ok (.iconst 0, 1) := by decide +kernel
theorem dX4_holds_157 : decode cX4_holds 157 = .ok (.ireturn, 1) := by decide +kernel
theorem dX4_holds_158 : decode cX4_holds 158 = .ok (.iload_n 1, 1) := by decide +kernel
theorem dX4_holds_159 : decode cX4_holds 159 = .ok (.iload_n 2, 1) := by decide +kernel
theorem dX4_holds_160 : decode cX4_holds 160 = .ok (.if_icmp .lt 7, 3) := by decide +kernel
theorem dX4_holds_163 : decode cX4_holds 163 = .ok (.iconst 1, 1) := by decide +kernel
theorem dX4_holds_164 : decode cX4_holds 164 = .ok (.goto 4, 3) := by decide +kernel
theorem dX4_holds_167 : decode cX4_holds 167 = .ok (.iconst 0, 1) := by decide +kernel
theorem dX4_holds_168 : decode cX4_holds 168 = .ok (.ireturn, 1) := by decide +kernel
theorem dX4_holds_169 : decode cX4_holds 169 = .ok (.iload_n 1, 1) := by decide +kernel
theorem dX4_holds_170 : decode cX4_holds 170 = .ok (.iload_n 2, 1) := by decide +kernel
theorem dX4_holds_171 : decode cX4_holds 171 = .ok (.if_icmp .ge 7, 3) := by decide +kernel
theorem dX4_holds_174 : decode cX4_holds 174 = .ok (.iconst 1, 1) := by decide +kernel
theorem dX4_holds_175 : decode cX4_holds 175 = .ok (.goto 4, 3) := by decide +kernel
theorem dX4_holds_178 : decode cX4_holds 178 = .ok (.iconst 0, 1) := by decide +kernel
theorem dX4_holds_179 : decode cX4_holds 179 = .ok (.ireturn, 1) := by decide +kernel
theorem dX4_holds_180 : decode cX4_holds 180 = .ok (.iload_n 1, 1) := by decide +kernel
theorem dX4_holds_181 : decode cX4_holds 181 = .ok (.iload_n 2, 1) := by decide +kernel
theorem dX4_holds_182 : decode cX4_holds 182 = .ok (.if_icmp .le 7, 3) := by decide +kernel
theorem dX4_holds_185 : decode cX4_holds 185 = .ok (.iconst 1, 1) := by decide +kernel
theorem dX4_holds_186 : decode cX4_holds 186 = .ok (.goto 4, 3) := by decide +kernel
theorem dX4_holds_189 : decode cX4_holds 189 = .ok (.iconst 0, 1) := by decide +kernel
theorem dX4_holds_190 : decode cX4_holds 190 = .ok (.ireturn, 1) := by decide +kernel
theorem dX4_holds_191 : decode cX4_holds 191 = .ok (.iload_n 1, 1) := by decide +kernel
theorem dX4_holds_192 : decode cX4_holds 192 = .ok (.iload_n 2, 1) := by decide +kernel
theorem dX4_holds_193 : decode cX4_holds 193 = .ok (.if_icmp .gt 7, 3) := by decide +kernel
theorem dX4_holds_196 : decode cX4_holds 196 = .ok (.iconst 1, 1) := by decide +kernel
theorem dX4_holds_197 : decode cX4_holds 197 = .ok (.goto 4, 3) := by decide +kernel
theorem dX4_holds_200 : decode cX4_holds 200 = .ok (.iconst 0, 1) := by decide +kernel
theorem dX4_holds_201 : decode cX4_holds 201 = .ok (.ireturn, 1) := by decide +kernel
theorem dX4_act_0 : decode cX4_act 0 = .ok (.aload_n 0, 1) := by decide +kernel
theorem dX4_act_1 : decode cX4_act 1 = .ok (.iload_n 1, 1) := by decide +kernel
theorem dX4_act_2 : decode cX4_act 2 = .ok (.invokevirtual 85, 3) := by decide +kernel
theorem dX4_act_5 : decode cX4_act 5 = .ok (.istore_n 2, 1) := by decide +kernel
theorem dX4_act_6 : decode cX4_act 6 = .ok (.aload_n 0, 1) := by decide +kernel
theorem dX4_act_7 : decode cX4_act 7 = .ok (.iload_n 1, 1) := by decide +kernel
theorem dX4_act_8 : decode cX4_act 8 = .ok (.iconst 1, 1) := by decide +kernel
theorem dX4_act_9 : decode cX4_act 9 = .ok (.iadd, 1) := by decide +kernel
theorem dX4_act_10 : decode cX4_act 10 = .ok (.putfield 162, 3) := by decide +kernel
theorem dX4_act_13 : decode cX4_act 13 = .ok (.aload_n 0, 1) := by decide +kernel
theorem dX4_act_14 : decode cX4_act 14 = .ok (.getfield 7, 3) := by decide +kernel
theorem dX4_act_17 : decode cX4_act 17 = .ok (.iload_n 1, 1) := by decide +kernel
theorem dX4_act_18 : decode cX4_act 18 = .ok (.iaload, 1) := by decide +kernel
theorem dX4_act_19 : decode cX4_act 19 = .ok (.tableswitch 288 0 6 #[41, 61, 106, 139, 172, 185, 252], 41) := by decide +kernel
theorem dX4_act_60 : decode cX4_act 60 = .ok (.aload_n 0, 1) := by decide +kernel
theorem dX4_act_61 : decode cX4_act 61 = .ok (.getfield 41, 3) := by decide +kernel
theorem dX4_act_64 : decode cX4_act 64 = .ok (.aload_n 0, 1) := by decide +kernel
theorem dX4_act_65 : decode cX4_act 65 = .ok (.getfield 16, 3) := by decide +kernel
theorem dX4_act_68 : decode cX4_act 68 = .ok (.iload_n 1, 1) := by decide +kernel
theorem dX4_act_69 : decode cX4_act 69 = .ok (.iaload, 1) := by decide +kernel
theorem dX4_act_70 : decode cX4_act 70 = .ok (.aload_n 0, 1) := by decide +kernel
theorem dX4_act_71 : decode cX4_act 71 = .ok (.getfield 13, 3) := by decide +kernel
theorem dX4_act_74 : decode cX4_act 74 = .ok (.iload_n 1, 1) := by decide +kernel
theorem dX4_act_75 : decode cX4_act 75 = .ok (.iaload, 1) := by decide +kernel
theorem dX4_act_76 : decode cX4_act 76 = .ok (.iastore, 1) := by decide +kernel
theorem dX4_act_77 : decode cX4_act 77 = .ok (.goto 265, 3) := by decide +kernel
theorem dX4_act_80 : decode cX4_act 80 = .ok (.aload_n 0, 1) := by decide +kernel
theorem dX4_act_81 : decode cX4_act 81 = .ok (.getfield 41, 3) := by decide +kernel
theorem dX4_act_84 : decode cX4_act 84 = .ok (.aload_n 0, 1) := by decide +kernel
theorem dX4_act_85 : decode cX4_act 85 = .ok (.getfield 16, 3) := by decide +kernel
theorem dX4_act_88 : decode cX4_act 88 = .ok (.iload_n 1, 1) := by decide +kernel
theorem dX4_act_89 : decode cX4_act 89 = .ok (.iaload, 1) := by decide +kernel
theorem dX4_act_90 : decode cX4_act 90 = .ok (.aload_n 0, 1) := by decide +kernel
theorem dX4_act_91 : decode cX4_act 91 = .ok (.getfield 13, 3) := by decide +kernel
theorem dX4_act_94 : decode cX4_act 94 = .ok (.iload_n 1, 1) := by decide +kernel
theorem dX4_act_95 : decode cX4_act 95 = .ok (.iaload, 1) := by decide +kernel
theorem dX4_act_96 : decode cX4_act 96 = .ok (.aload_n 0, 1) := by decide +kernel
theorem dX4_act_97 : decode cX4_act 97 = .ok (.getfield 41, 3) := by decide +kernel
theorem dX4_act_100 : decode cX4_act 100 = .ok (.aload_n 0, 1) := by decide +kernel
theorem dX4_act_101 : decode cX4_act 101 = .ok (.getfield 19, 3) := by decide +kernel
theorem dX4_act_104 : decode cX4_act 104 = .ok (.iload_n 1, 1) := by decide +kernel
theorem dX4_act_105 : decode cX4_act 105 = .ok (.iaload, 1) := by decide +kernel
theorem dX4_act_106 : decode cX4_act 106 = .ok (.iaload, 1) := by decide +kernel
theorem dX4_act_107 : decode cX4_act 107 = .ok (.aload_n 0, 1) := by decide +kernel
theorem dX4_act_108 : decode cX4_act 108 = .ok (.getfield 41, 3) := by decide +kernel
theorem dX4_act_111 : decode cX4_act 111 = .ok (.aload_n 0, 1) := by decide +kernel
theorem dX4_act_112 : decode cX4_act 112 = .ok (.getfield 22, 3) := by decide +kernel
theorem dX4_act_115 : decode cX4_act 115 = .ok (.iload_n 1, 1) := by decide +kernel
theorem dX4_act_116 : decode cX4_act 116 = .ok (.iaload, 1) := by decide +kernel
theorem dX4_act_117 : decode cX4_act 117 = .ok (.iaload, 1) := by decide +kernel
theorem dX4_act_118 : decode cX4_act 118 = .ok (.invokestatic 170, 3) := by decide +kernel
theorem dX4_act_121 : decode cX4_act 121 = .ok (.iastore, 1) := by decide +kernel
theorem dX4_act_122 : decode cX4_act 122 = .ok (.goto 220, 3) := by decide +kernel
theorem dX4_act_125 : decode cX4_act 125 = .ok (.aload_n 0, 1) := by decide +kernel
theorem dX4_act_126 : decode cX4_act 126 = .ok (.getfield 41, 3) := by decide +kernel
theorem dX4_act_129 : decode cX4_act 129 = .ok (.aload_n 0, 1) := by decide +kernel
theorem dX4_act_130 : decode cX4_act 130 = .ok (.getfield 13, 3) := by decide +kernel
theorem dX4_act_133 : decode cX4_act 133 = .ok (.iload_n 1, 1) := by decide +kernel
theorem dX4_act_134 : decode cX4_act 134 = .ok (.iaload, 1) := by decide +kernel
theorem dX4_act_135 : decode cX4_act 135 = .ok (.aload_n 0, 1) := by decide +kernel
theorem dX4_act_136 : decode cX4_act 136 = .ok (.getfield 25, 3) := by decide +kernel
theorem dX4_act_139 : decode cX4_act 139 = .ok (.aload_n 0, 1) := by decide +kernel
theorem dX4_act_140 : decode cX4_act 140 = .ok (.getfield 41, 3) := by decide +kernel
theorem dX4_act_143 : decode cX4_act 143 = .ok (.aload_n 0, 1) := by decide +kernel
theorem dX4_act_144 : decode cX4_act 144 = .ok (.getfield 16, 3) := by decide +kernel
theorem dX4_act_147 : decode cX4_act 147 = .ok (.iload_n 1, 1) := by decide +kernel
theorem dX4_act_148 : decode cX4_act 148 = .ok (.iaload, 1) := by decide +kernel
theorem dX4_act_149 : decode cX4_act 149 = .ok (.iaload, 1) := by decide +kernel
theorem dX4_act_150 : decode cX4_act 150 = .ok (.bipush 7, 2) := by decide +kernel
theorem dX4_act_152 : decode cX4_act 152 = .ok (.iand, 1) := by decide +kernel
theorem dX4_act_153 : decode cX4_act 153 = .ok (.iaload, 1) := by decide +kernel
theorem dX4_act_154 : decode cX4_act 154 = .ok (.iastore, 1) := by decide +kernel
theorem dX4_act_155 : decode cX4_act 155 = .ok (.goto 187, 3) := by decide +kernel
theorem dX4_act_158 : decode cX4_act 158 = .ok (.aload_n 0, 1) := by decide +kernel
theorem dX4_act_159 : decode cX4_act 159 = .ok (.getfield 25, 3) := by decide +kernel
theorem dX4_act_162 : decode cX4_act 162 = .ok (.aload_n 0, 1) := by decide +kernel
theorem dX4_act_163 : decode cX4_act 163 = .ok (.getfield 41, 3) := by decide +kernel
theorem dX4_act_166 : decode cX4_act 166 = .ok (.aload_n 0, 1) := by decide +kernel
theorem dX4_act_167 : decode cX4_act 167 = .ok (.getfield 13, 3) := by decide +kernel
theorem dX4_act_170 : decode cX4_act 170 = .ok (.iload_n 1, 1) := by decide +kernel
theorem dX4_act_171 : decode cX4_act 171 = .ok (.iaload, 1) := by decide +kernel
theorem dX4_act_172 : decode cX4_act 172 = .ok (.iaload, 1) := by decide +kernel
theorem dX4_act_173 : decode cX4_act 173 = .ok (.bipush 7, 2) := by decide +kernel
theorem dX4_act_175 : decode cX4_act 175 = .ok (.iand, 1) := by decide +kernel
theorem dX4_act_176 : decode cX4_act 176 = .ok (.aload_n 0, 1) := by decide +kernel
theorem dX4_act_177 : decode cX4_act 177 = .ok (.getfield 41, 3) := by decide +kernel
theorem dX4_act_180 : decode cX4_act 180 = .ok (.aload_n 0, 1) := by decide +kernel
theorem dX4_act_181 : decode cX4_act 181 = .ok (.getfield 16, 3) := by decide +kernel
theorem dX4_act_184 : decode cX4_act 184 = .ok (.iload_n 1, 1) := by decide +kernel
theorem dX4_act_185 : decode cX4_act 185 = .ok (.iaload, 1) := by decide +kernel
theorem dX4_act_186 : decode cX4_act 186 = .ok (.iaload, 1) := by decide +kernel
theorem dX4_act_187 : decode cX4_act 187 = .ok (.iastore, 1) := by decide +kernel
theorem dX4_act_188 : decode cX4_act 188 = .ok (.goto 154, 3) := by decide +kernel
theorem dX4_act_191 : decode cX4_act 191 = .ok (.aload_n 0, 1) := by decide +kernel
theorem dX4_act_192 : decode cX4_act 192 = .ok (.aload_n 0, 1) := by decide +kernel
theorem dX4_act_193 : decode cX4_act 193 = .ok (.getfield 13, 3) := by decide +kernel
theorem dX4_act_196 : decode cX4_act 196 = .ok (.iload_n 1, 1) := by decide +kernel
theorem dX4_act_197 : decode cX4_act 197 = .ok (.iaload, 1) := by decide +kernel
theorem dX4_act_198 : decode cX4_act 198 = .ok (.putfield 162, 3) := by decide +kernel
theorem dX4_act_201 : decode cX4_act 201 = .ok (.goto 141, 3) := by decide +kernel
theorem dX4_act_204 : decode cX4_act 204 = .ok (.aload_n 0, 1) := by decide +kernel
theorem dX4_act_205 : decode cX4_act 205 = .ok (.getfield 13, 3) := by decide +kernel
theorem dX4_act_208 : decode cX4_act 208 = .ok (.iload_n 1, 1) := by decide +kernel
theorem dX4_act_209 : decode cX4_act 209 = .ok (.iaload, 1) := by decide +kernel
theorem dX4_act_210 : decode cX4_act 210 = .ok (.aload_n 0, 1) := by decide +kernel
theorem dX4_act_211 : decode cX4_act 211 = .ok (.getfield 41, 3) := by decide +kernel
theorem dX4_act_214 : decode cX4_act 214 = .ok (.aload_n 0, 1) := by decide +kernel
theorem dX4_act_215 : decode cX4_act 215 = .ok (.getfield 16, 3) := by decide +kernel
theorem dX4_act_218 : decode cX4_act 218 = .ok (.iload_n 1, 1) := by decide +kernel
theorem dX4_act_219 : decode cX4_act 219 = .ok (.iaload, 1) := by decide +kernel
theorem dX4_act_220 : decode cX4_act 220 = .ok (.iaload, 1) := by decide +kernel
theorem dX4_act_221 : decode cX4_act 221 = .ok (.aload_n 0, 1) := by decide +kernel
theorem dX4_act_222 : decode cX4_act 222 = .ok (.getfield 41, 3) := by decide +kernel
theorem dX4_act_225 : decode cX4_act 225 = .ok (.aload_n 0, 1) := by decide +kernel
theorem dX4_act_226 : decode cX4_act 226 = .ok (.getfield 19, 3) := by decide +kernel
theorem dX4_act_229 : decode cX4_act 229 = .ok (.iload_n 1, 1) := by decide +kernel
theorem dX4_act_230 : decode cX4_act 230 = .ok (.iaload, 1) := by decide +kernel
theorem dX4_act_231 : decode cX4_act 231 = .ok (.iaload, 1) := by decide +kernel
theorem dX4_act_232 : decode cX4_act 232 = .ok (.invokestatic 174, 3) := by decide +kernel
theorem dX4_act_235 : decode cX4_act 235 = .ok (.ifCond .eq 16, 3) := by decide +kernel
theorem dX4_act_238 : decode cX4_act 238 = .ok (.aload_n 0, 1) := by decide +kernel
theorem dX4_act_239 : decode cX4_act 239 = .ok (.aload_n 0, 1) := by decide +kernel
theorem dX4_act_240 : decode cX4_act 240 = .ok (.getfield 22, 3) := by decide +kernel
theorem dX4_act_243 : decode cX4_act 243 = .ok (.iload_n 1, 1) := by decide +kernel
theorem dX4_act_244 : decode cX4_act 244 = .ok (.iaload, 1) := by decide +kernel
theorem dX4_act_245 : decode cX4_act 245 = .ok (.putfield 162, 3) := by decide +kernel
theorem dX4_act_248 : decode cX4_act 248 = .ok (.goto 94, 3) := by decide +kernel
theorem dX4_act_251 : decode cX4_act 251 = .ok (.aload_n 0, 1) := by decide +kernel
theorem dX4_act_252 : decode cX4_act 252 = .ok (.getfield 34, 3) := by decide +kernel
theorem dX4_act_255 : decode cX4_act 255 = .ok (.iload_n 1, 1) := by decide +kernel
theorem dX4_act_256 : decode cX4_act 256 = .ok (.baload, 1) := by decide +kernel
theorem dX4_act_257 : decode cX4_act 257 = .ok (.ifCond .eq 9, 3) := by decide +kernel
theorem dX4_act_260 : decode cX4_act 260 = .ok (.iload_n 2, 1) := by decide +kernel
theorem dX4_act_261 : decode cX4_act 261 = .ok (.iconst 1, 1) := by decide +kernel
theorem dX4_act_262 : decode cX4_act 262 = .ok (.isub, 1) := by decide +kernel
theorem dX4_act_263 : decode cX4_act 263 = .ok (.goto 4, 3) := by decide +kernel
theorem dX4_act_266 : decode cX4_act 266 = .ok (.iload_n 2, 1) := by decide +kernel
theorem dX4_act_267 : decode cX4_act 267 = .ok (.istore_n 2, 1) := by decide +kernel
theorem dX4_act_268 : decode cX4_act 268 = .ok (.goto 74, 3) := by decide +kernel
theorem dX4_act_271 : decode cX4_act 271 = .ok (.aload_n 0, 1) := by decide +kernel
theorem dX4_act_272 : decode cX4_act 272 = .ok (.getfield 44, 3) := by decide +kernel
theorem dX4_act_275 : decode cX4_act 275 = .ok (.aload_n 0, 1) := by decide +kernel
theorem dX4_act_276 : decode cX4_act 276 = .ok (.getfield 165, 3) := by decide +kernel
theorem dX4_act_279 : decode cX4_act 279 = .ok (.bipush 16, 2) := by decide +kernel
theorem dX4_act_281 : decode cX4_act 281 = .ok (.irem, 1) := by decide +kernel
theorem dX4_act_282 : decode cX4_act 282 = .ok (.aload_n 0, 1) := by decide +kernel
theorem dX4_act_283 : decode cX4_act 283 = .ok (.getfield 41, 3) := by decide +kernel
theorem dX4_act_286 : decode cX4_act 286 = .ok (.aload_n 0, 1) := by decide +kernel
theorem dX4_act_287 : decode cX4_act 287 = .ok (.getfield 13, 3) := by decide +kernel
theorem dX4_act_290 : decode cX4_act 290 = .ok (.iload_n 1, 1) := by decide +kernel
theorem dX4_act_291 : decode cX4_act 291 = .ok (.iaload, 1) := by decide +kernel
theorem dX4_act_292 : decode cX4_act 292 = .ok (.iaload, 1) := by decide +kernel
theorem dX4_act_293 : decode cX4_act 293 = .ok (.iastore, 1) := by decide +kernel
theorem dX4_act_294 : decode cX4_act 294 = .ok (.aload_n 0, 1) := by decide +kernel
theorem dX4_act_295 : decode cX4_act 295 = .ok (.dup, 1) := by decide +kernel
theorem dX4_act_296 : decode cX4_act 296 = .ok (.getfield 165, 3) := by decide +kernel
theorem dX4_act_299 : decode cX4_act 299 = .ok (.iconst 1, 1) := by decide +kernel
theorem dX4_act_300 : decode cX4_act 300 = .ok (.iadd, 1) := by decide +kernel
theorem dX4_act_301 : decode cX4_act 301 = .ok (.putfield 165, 3) := by decide +kernel
theorem dX4_act_304 : decode cX4_act 304 = .ok (.goto 38, 3) := by decide +kernel
theorem dX4_act_307 : decode cX4_act 307 = .ok (.aload_n 0, 1) := by decide +kernel
theorem dX4_act_308 : decode cX4_act 308 = .ok (.iload_n 1, 1) := by decide +kernel
theorem dX4_act_309 : decode cX4_act 309 = .ok (.putfield 162, 3) := by decide +kernel
theorem dX4_act_312 : decode cX4_act 312 = .ok (.aload_n 0, 1) := by decide +kernel
theorem dX4_act_313 : decode cX4_act 313 = .ok (.aload_n 0, 1) := by decide +kernel
theorem dX4_act_314 : decode cX4_act 314 = .ok (.getfield 7, 3) := by decide +kernel
theorem dX4_act_317 : decode cX4_act 317 = .ok (.iload_n 1, 1) := by decide +kernel
theorem dX4_act_318 : decode cX4_act 318 = .ok (.iaload, 1) := by decide +kernel
theorem dX4_act_319 : decode cX4_act 319 = .ok (.bipush 7, 2) := by decide +kernel
theorem dX4_act_321 : decode cX4_act 321 = .ok (.if_icmp .ne 7, 3) := by decide +kernel
theorem dX4_act_324 : decode cX4_act 324 = .ok (.iconst 2, 1) := by decide +kernel
theorem dX4_act_325 : decode cX4_act 325 = .ok (.goto 4, 3) := by decide +kernel
theorem dX4_act_328 : decode cX4_act 328 = .ok (.iconst 3, 1) := by decide +kernel
theorem dX4_act_329 : decode cX4_act 329 = .ok (.putfield 58, 3) := by decide +kernel
theorem dX4_act_332 : decode cX4_act 332 = .ok (.aload_n 0, 1) := by decide +kernel
theorem dX4_act_333 : decode cX4_act 333 = .ok (.aload_n 0, 1) := by decide +kernel
theorem dX4_act_334 : decode cX4_act 334 = .ok (.getfield 13, 3) := by decide +kernel
theorem dX4_act_337 : decode cX4_act 337 = .ok (.iload_n 1, 1) := by decide +kernel
theorem dX4_act_338 : decode cX4_act 338 = .ok (.iaload, 1) := by decide +kernel
theorem dX4_act_339 : decode cX4_act 339 = .ok (.putfield 178, 3) := by decide +kernel
theorem dX4_act_342 : decode cX4_act 342 = .ok (.iload_n 2, 1) := by decide +kernel
theorem dX4_act_343 : decode cX4_act 343 = .ok (.ireturn, 1) := by decide +kernel
theorem dX4_run_0 : decode cX4_run 0 = .ok (.aload_n 0, 1) := by decide +kernel
theorem dX4_run_1 : decode cX4_run 1 = .ok (.iload_n 1, 1) := by decide +kernel
theorem dX4_run_2 : decode cX4_run 2 = .ok (.ifCond .lt 10, 3) := by decide +kernel
theorem dX4_run_5 : decode cX4_run 5 = .ok (.iload_n 1, 1) := by decide +kernel
theorem dX4_run_6 : decode cX4_run 6 = .ok (.sipush 2000, 3) := by decide +kernel
theorem dX4_run_9 : decode cX4_run 9 = .ok (.if_icmp .le 7, 3) := by decide +kernel
theorem dX4_run_12 : decode cX4_run 12 = .ok (.iconst 1, 1) := by decide +kernel
theorem dX4_run_13 : decode cX4_run 13 = .ok (.goto 16, 3) := by decide +kernel
theorem dX4_run_16 : decode cX4_run 16 = .ok (.aload_n 0, 1) := by decide +kernel
theorem dX4_run_17 : decode cX4_run 17 = .ok (.getfield 58, 3) := by decide +kernel
theorem dX4_run_20 : decode cX4_run 20 = .ok (.iconst 1, 1) := by decide +kernel
theorem dX4_run_21 : decode cX4_run 21 = .ok (.if_icmp .eq 7, 3) := by decide +kernel
theorem dX4_run_24 : decode cX4_run 24 = .ok (.iconst 2, 1) := by decide +kernel
theorem dX4_run_25 : decode cX4_run 25 = .ok (.goto 4, 3) := by decide +kernel
theorem dX4_run_28 : decode cX4_run 28 = .ok (.iconst 0, 1) := by decide +kernel
theorem dX4_run_29 : decode cX4_run 29 = .ok (.putfield 47, 3) := by decide +kernel
theorem dX4_run_32 : decode cX4_run 32 = .ok (.aload_n 0, 1) := by decide +kernel
theorem dX4_run_33 : decode cX4_run 33 = .ok (.getfield 47, 3) := by decide +kernel
theorem dX4_run_36 : decode cX4_run 36 = .ok (.ifCond .le 5, 3) := by decide +kernel
theorem dX4_run_39 : decode cX4_run 39 = .ok (.iconst 0, 1) := by decide +kernel
theorem dX4_run_40 : decode cX4_run 40 = .ok (.ireturn, 1) := by decide +kernel
theorem dX4_run_41 : decode cX4_run 41 = .ok (.iconst 0, 1) := by decide +kernel
theorem dX4_run_42 : decode cX4_run 42 = .ok (.istore_n 2, 1) := by decide +kernel
theorem dX4_run_43 : decode cX4_run 43 = .ok (.aload_n 0, 1) := by decide +kernel
theorem dX4_run_44 : decode cX4_run 44 = .ok (.getfield 58, 3) := by decide +kernel
theorem dX4_run_47 : decode cX4_run 47 = .ok (.iconst 1, 1) := by decide +kernel
theorem dX4_run_48 : decode cX4_run 48 = .ok (.if_icmp .ne 22, 3) := by decide +kernel
theorem dX4_run_51 : decode cX4_run 51 = .ok (.iload_n 2, 1) := by decide +kernel
theorem dX4_run_52 : decode cX4_run 52 = .ok (.iload_n 1, 1) := by decide +kernel
theorem dX4_run_53 : decode cX4_run 53 = .ok (.if_icmp .ge 17, 3) := by decide +kernel
theorem dX4_run_56 : decode cX4_run 56 = .ok (.iload_n 2, 1) := by decide +kernel
theorem dX4_run_57 : decode cX4_run 57 = .ok (.aload_n 0, 1) := by decide +kernel
theorem dX4_run_58 : decode cX4_run 58 = .ok (.aload_n 0, 1) := by decide +kernel
theorem dX4_run_59 : decode cX4_run 59 = .ok (.getfield 162, 3) := by decide +kernel
theorem dX4_run_62 : decode cX4_run 62 = .ok (.invokevirtual 181, 3) := by decide +kernel
theorem dX4_run_65 : decode cX4_run 65 = .ok (.iadd, 1) := by decide +kernel
theorem dX4_run_66 : decode cX4_run 66 = .ok (.istore_n 2, 1) := by decide +kernel
theorem dX4_run_67 : decode cX4_run 67 = .ok (.goto (-24), 3) := by decide +kernel
theorem dX4_run_70 : decode cX4_run 70 = .ok (.iload_n 2, 1) := by decide +kernel
theorem dX4_run_71 : decode cX4_run 71 = .ok (.ireturn, 1) := by decide +kernel
theorem dX4_state_0 : decode cX4_state 0 = .ok (.aload_n 0, 1) := by decide +kernel
theorem dX4_state_1 : decode cX4_state 1 = .ok (.iconst 0, 1) := by decide +kernel
theorem dX4_state_2 : decode cX4_state 2 = .ok (.putfield 47, 3) := by decide +kernel
theorem dX4_state_5 : decode cX4_state 5 = .ok (.aload_n 0, 1) := by decide +kernel
theorem dX4_state_6 : decode cX4_state 6 = .ok (.getfield 58, 3) := by decide +kernel
theorem dX4_state_9 : decode cX4_state 9 = .ok (.iconst 3, 1) := by decide +kernel
theorem dX4_state_10 : decode cX4_state 10 = .ok (.if_icmp .ne 14, 3) := by decide +kernel
theorem dX4_state_13 : decode cX4_state 13 = .ok (.iconst 3, 1) := by decide +kernel
theorem dX4_state_14 : decode cX4_state 14 = .ok (.iconst 4, 1) := by decide +kernel
theorem dX4_state_15 : decode cX4_state 15 = .ok (.aload_n 0, 1) := by decide +kernel
theorem dX4_state_16 : decode cX4_state 16 = .ok (.getfield 178, 3) := by decide +kernel
theorem dX4_state_19 : decode cX4_state 19 = .ok (.imul, 1) := by decide +kernel
theorem dX4_state_20 : decode cX4_state 20 = .ok (.iadd, 1) := by decide +kernel
theorem dX4_state_21 : decode cX4_state 21 = .ok (.goto 7, 3) := by decide +kernel
theorem dX4_state_24 : decode cX4_state 24 = .ok (.aload_n 0, 1) := by decide +kernel
theorem dX4_state_25 : decode cX4_state 25 = .ok (.getfield 58, 3) := by decide +kernel
theorem dX4_state_28 : decode cX4_state 28 = .ok (.ireturn, 1) := by decide +kernel
theorem dX4_at_0 : decode cX4_at 0 = .ok (.aload_n 0, 1) := by decide +kernel
theorem dX4_at_1 : decode cX4_at 1 = .ok (.iconst 0, 1) := by decide +kernel
theorem dX4_at_2 : decode cX4_at 2 = .ok (.putfield 47, 3) := by decide +kernel
theorem dX4_at_5 : decode cX4_at 5 = .ok (.aload_n 0, 1) := by decide +kernel
theorem dX4_at_6 : decode cX4_at 6 = .ok (.getfield 58, 3) := by decide +kernel
theorem dX4_at_9 : decode cX4_at 9 = .ok (.ifCond .ne 7, 3) := by decide +kernel
theorem dX4_at_12 : decode cX4_at 12 = .ok (.iconst (-1), 1) := by decide +kernel
theorem dX4_at_13 : decode cX4_at 13 = .ok (.goto 7, 3) := by decide +kernel
theorem dX4_at_16 : decode cX4_at 16 = .ok (.aload_n 0, 1) := by decide +kernel
theorem dX4_at_17 : decode cX4_at 17 = .ok (.getfield 162, 3) := by decide +kernel
theorem dX4_at_20 : decode cX4_at 20 = .ok (.ireturn, 1) := by decide +kernel
theorem dX4_variable_0 : decode cX4_variable 0 = .ok (.aload_n 0, 1) := by decide +kernel
theorem dX4_variable_1 : decode cX4_variable 1 = .ok (.iload_n 1, 1) := by decide +kernel
theorem dX4_variable_2 : decode cX4_variable 2 = .ok (.invokestatic 61, 3) := by decide +kernel
theorem dX4_variable_5 : decode cX4_variable 5 = .ok (.ifCond .ne 7, 3) := by decide +kernel
theorem dX4_variable_8 : decode cX4_variable 8 = .ok (.iconst 1, 1) := by decide +kernel
theorem dX4_variable_9 : decode cX4_variable 9 = .ok (.goto 15, 3) := by decide +kernel
theorem dX4_variable_12 : decode cX4_variable 12 = .ok (.aload_n 0, 1) := by decide +kernel
theorem dX4_variable_13 : decode cX4_variable 13 = .ok (.getfield 58, 3) := by decide +kernel
theorem dX4_variable_16 : decode cX4_variable 16 = .ok (.ifCond .ne 7, 3) := by decide +kernel
theorem dX4_variable_19 : decode cX4_variable 19 = .ok (.iconst 2, 1) := by decide +kernel
theorem dX4_variable_20 : decode cX4_variable 20 = .ok (.goto 4, 3) := by decide +kernel
theorem dX4_variable_23 : decode cX4_variable 23 = .ok (.iconst 0, 1) := by decide +kernel
theorem dX4_variable_24 : decode cX4_variable 24 = .ok (.putfield 47, 3) := by decide +kernel
theorem dX4_variable_27 : decode cX4_variable 27 = .ok (.aload_n 0, 1) := by decide +kernel
theorem dX4_variable_28 : decode cX4_variable 28 = .ok (.getfield 47, 3) := by decide +kernel
theorem dX4_variable_31 : decode cX4_variable 31 = .ok (.ifCond .le 7, 3) := by decide +kernel
theorem dX4_variable_34 : decode cX4_variable 34 = .ok (.iconst 0, 1) := by decide +kernel
theorem dX4_variable_35 : decode cX4_variable 35 = .ok (.goto 9, 3) := by decide +kernel
theorem dX4_variable_38 : decode cX4_variable 38 = .ok (.aload_n 0, 1) := by decide +kernel
theorem dX4_variable_39 : decode cX4_variable 39 = .ok (.getfield 41, 3) := by decide +kernel
theorem dX4_variable_42 : decode cX4_variable 42 = .ok (.iload_n 1, 1) := by decide +kernel
theorem dX4_variable_43 : decode cX4_variable 43 = .ok (.iaload, 1) := by decide +kernel
theorem dX4_variable_44 : decode cX4_variable 44 = .ok (.ireturn, 1) := by decide +kernel
theorem dX4_outputs_0 : decode cX4_outputs 0 = .ok (.aload_n 0, 1) := by decide +kernel
theorem dX4_outputs_1 : decode cX4_outputs 1 = .ok (.iconst 0, 1) := by decide +kernel
theorem dX4_outputs_2 : decode cX4_outputs 2 = .ok (.putfield 47, 3) := by decide +kernel
theorem dX4_outputs_5 : decode cX4_outputs 5 = .ok (.aload_n 0, 1) := by decide +kernel
theorem dX4_outputs_6 : decode cX4_outputs 6 = .ok (.getfield 58, 3) := by decide +kernel
theorem dX4_outputs_9 : decode cX4_outputs 9 = .ok (.ifCond .ne 7, 3) := by decide +kernel
theorem dX4_outputs_12 : decode cX4_outputs 12 = .ok (.iconst 0, 1) := by decide +kernel
theorem dX4_outputs_13 : decode cX4_outputs 13 = .ok (.goto 7, 3) := by decide +kernel
theorem dX4_outputs_16 : decode cX4_outputs 16 = .ok (.aload_n 0, 1) := by decide +kernel
theorem dX4_outputs_17 : decode cX4_outputs 17 = .ok (.getfield 165, 3) := by decide +kernel
theorem dX4_outputs_20 : decode cX4_outputs 20 = .ok (.ireturn, 1) := by decide +kernel
theorem dX4_output_0 : decode cX4_output 0 = .ok (.aload_n 0, 1) := by decide +kernel
theorem dX4_output_1 : decode cX4_output 1 = .ok (.aload_n 0, 1) := by decide +kernel
theorem dX4_output_2 : decode cX4_output 2 = .ok (.getfield 58, 3) := by decide +kernel
theorem dX4_output_5 : decode cX4_output 5 = .ok (.ifCond .eq 30, 3) := by decide +kernel
theorem dX4_output_8 : decode cX4_output 8 = .ok (.iload_n 1, 1) := by decide +kernel
theorem dX4_output_9 : decode cX4_output 9 = .ok (.ifCond .lt 26, 3) := by decide +kernel
theorem dX4_output_12 : decode cX4_output 12 = .ok (.iload_n 1, 1) := by decide +kernel
theorem dX4_output_13 : decode cX4_output 13 = .ok (.aload_n 0, 1) := by decide +kernel
theorem dX4_output_14 : decode cX4_output 14 = .ok (.getfield 165, 3) := by decide +kernel
theorem dX4_output_17 : decode cX4_output 17 = .ok (.if_icmp .ge 18, 3) := by decide +kernel
theorem dX4_output_20 : decode cX4_output 20 = .ok (.iload_n 1, 1) := by decide +kernel
theorem dX4_output_21 : decode cX4_output 21 = .ok (.aload_n 0, 1) := by decide +kernel
theorem dX4_output_22 : decode cX4_output 22 = .ok (.getfield 165, 3) := by decide +kernel
theorem dX4_output_25 : decode cX4_output 25 = .ok (.bipush 16, 2) := by decide +kernel
theorem dX4_output_27 : decode cX4_output 27 = .ok (.isub, 1) := by decide +kernel
theorem dX4_output_28 : decode cX4_output 28 = .ok (.if_icmp .lt 7, 3) := by decide +kernel
theorem dX4_output_31 : decode cX4_output 31 = .ok (.iconst 0, 1) := by decide +kernel
theorem dX4_output_32 : decode cX4_output 32 = .ok (.goto 4, 3) := by decide +kernel
theorem dX4_output_35 : decode cX4_output 35 = .ok (.iconst 1, 1) := by decide +kernel
theorem dX4_output_36 : decode cX4_output 36 = .ok (.putfield 47, 3) := by decide +kernel
theorem dX4_output_39 : decode cX4_output 39 = .ok (.aload_n 0, 1) := by decide +kernel
theorem dX4_output_40 : decode cX4_output 40 = .ok (.getfield 47, 3) := by decide +kernel
theorem dX4_output_43 : decode cX4_output 43 = .ok (.ifCond .le 7, 3) := by decide +kernel
theorem dX4_output_46 : decode cX4_output 46 = .ok (.iconst 0, 1) := by decide +kernel
theorem dX4_output_47 : decode cX4_output 47 = .ok (.goto 12, 3) := by decide +kernel
theorem dX4_output_50 : decode cX4_output 50 = .ok (.aload_n 0, 1) := by decide +kernel
theorem dX4_output_51 : decode cX4_output 51 = .ok (.getfield 44, 3) := by decide +kernel
theorem dX4_output_54 : decode cX4_output 54 = .ok (.iload_n 1, 1) := by decide +kernel
theorem dX4_output_55 : decode cX4_output 55 = .ok (.bipush 16, 2) := by decide +kernel
theorem dX4_output_57 : decode cX4_output 57 = .ok (.irem, 1) := by decide +kernel
theorem dX4_output_58 : decode cX4_output 58 = .ok (.iaload, 1) := by decide +kernel
theorem dX4_output_59 : decode cX4_output 59 = .ok (.ireturn, 1) := by decide +kernel
