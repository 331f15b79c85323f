theorem dX8_init_0 : decode cX8_init 0 = .ok (.aload_n 0, 1) := by decide +kernel
theorem dX8_init_1 : decode cX8_init 1 = .ok (.invokespecial 1, 3) := by decide +kernel
theorem dX8_init_4 : decode cX8_init 4 = .ok (.aload_n 0, 1) := by decide +kernel
theorem dX8_init_5 : decode cX8_init 5 = .ok (.new 7, 3) := by decide +kernel
theorem dX8_init_8 : decode cX8_init 8 = .ok (.dup, 1) := by decide +kernel
theorem dX8_init_9 : decode cX8_init 9 = .ok (.invokespecial 9, 3) := by decide +kernel
theorem dX8_init_12 : decode cX8_init 12 = .ok (.putfield 10, 3) := by decide +kernel
theorem dX8_init_15 : decode cX8_init 15 = .ok (.aload_n 0, 1) := by decide +kernel
theorem dX8_init_16 : decode cX8_init 16 = .ok (.new 16, 3) := by decide +kernel
theorem dX8_init_19 : decode cX8_init 19 = .ok (.dup, 1) := by decide +kernel
theorem dX8_init_20 : decode cX8_init 20 = .ok (.invokespecial 18, 3) := by decide +kernel
theorem dX8_init_23 : decode cX8_init 23 = .ok (.putfield 19, 3) := by decide +kernel
theorem dX8_init_26 : decode cX8_init 26 = .ok (.aload_n 0, 1) := by decide +kernel
theorem dX8_init_27 : decode cX8_init 27 = .ok (.new 23, 3) := by decide +kernel
theorem dX8_init_30 : decode cX8_init 30 = .ok (.dup, 1) := by decide +kernel
theorem dX8_init_31 : decode cX8_init 31 = .ok (.invokespecial 25, 3) := by decide +kernel
theorem dX8_init_34 : decode cX8_init 34 = .ok (.putfield 26, 3) := by decide +kernel
theorem dX8_init_37 : decode cX8_init 37 = .ok (.aload_n 0, 1) := by decide +kernel
theorem dX8_init_38 : decode cX8_init 38 = .ok (.new 30, 3) := by decide +kernel
theorem dX8_init_41 : decode cX8_init 41 = .ok (.dup, 1) := by decide +kernel
theorem dX8_init_42 : decode cX8_init 42 = .ok (.invokespecial 32, 3) := by decide +kernel
theorem dX8_init_45 : decode cX8_init 45 = .ok (.putfield 33, 3) := by decide +kernel
theorem dX8_init_48 : decode cX8_init 48 = .ok (.aload_n 0, 1) := by decide +kernel
theorem dX8_init_49 : decode cX8_init 49 = .ok (.new 37, 3) := by decide +kernel
theorem dX8_init_52 : decode cX8_init 52 = .ok (.dup, 1) := by decide +kernel
theorem dX8_init_53 : decode cX8_init 53 = .ok (.bipush 8, 2) := by decide +kernel
theorem dX8_init_55 : decode cX8_init 55 = .ok (.invokespecial 39, 3) := by decide +kernel
theorem dX8_init_58 : decode cX8_init 58 = .ok (.putfield 42, 3) := by decide +kernel
theorem dX8_init_61 : decode cX8_init 61 = .ok (.aload_n 0, 1) := by decide +kernel
theorem dX8_init_62 : decode cX8_init 62 = .ok (.new 37, 3) := by decide +kernel
theorem dX8_init_65 : decode cX8_init 65 = .ok (.dup, 1) := by decide +kernel
theorem dX8_init_66 : decode cX8_init 66 = .ok (.iconst 2, 1) := by decide +kernel
theorem dX8_init_67 : decode cX8_init 67 = .ok (.invokespecial 39, 3) := by decide +kernel
theorem dX8_init_70 : decode cX8_init 70 = .ok (.putfield 46, 3) := by decide +kernel
theorem dX8_init_73 : decode cX8_init 73 = .ok (.aload_n 0, 1) := by decide +kernel
theorem dX8_init_74 : decode cX8_init 74 = .ok (.new 49, 3) := by decide +kernel
theorem dX8_init_77 : decode cX8_init 77 = .ok (.dup, 1) := by decide +kernel
theorem dX8_init_78 : decode cX8_init 78 = .ok (.bipush 8, 2) := by decide +kernel
theorem dX8_init_80 : decode cX8_init 80 = .ok (.invokespecial 51, 3) := by decide +kernel
theorem dX8_init_83 : decode cX8_init 83 = .ok (.putfield 52, 3) := by decide +kernel
theorem dX8_init_86 : decode cX8_init 86 = .ok (.aload_n 0, 1) := by decide +kernel
theorem dX8_init_87 : decode cX8_init 87 = .ok (.new 49, 3) := by decide +kernel
theorem dX8_init_90 : decode cX8_init 90 = .ok (.dup, 1) := by decide +kernel
theorem dX8_init_91 : decode cX8_init 91 = .ok (.bipush 8, 2) := by decide +kernel
theorem dX8_init_93 : decode cX8_init 93 = .ok (.invokespecial 51, 3) := by decide +kernel
theorem dX8_init_96 : decode cX8_init 96 = .ok (.putfield 56, 3) := by decide +kernel
theorem dX8_init_99 : decode cX8_init 99 = .ok (.aload_n 0, 1) := by decide +kernel
theorem dX8_init_100 : decode cX8_init 100 = .ok (.new 30, 3) := by decide +kernel
theorem dX8_init_103 : decode cX8_init 103 = .ok (.dup, 1) := by decide +kernel
theorem dX8_init_104 : decode cX8_init 104 = .ok (.invokespecial 32, 3) := by decide +kernel
theorem dX8_init_107 : decode cX8_init 107 = .ok (.putfield 59, 3) := by decide +kernel
theorem dX8_init_110 : decode cX8_init 110 = .ok (.aload_n 0, 1) := by decide +kernel
theorem dX8_init_111 : decode cX8_init 111 = .ok (.new 62, 3) := by decide +kernel
theorem dX8_init_114 : decode cX8_init 114 = .ok (.dup, 1) := by decide +kernel
theorem dX8_init_115 : decode cX8_init 115 = .ok (.invokespecial 64, 3) := by decide +kernel
theorem dX8_init_118 : decode cX8_init 118 = .ok (.putfield 65, 3) := by decide +kernel
theorem dX8_init_121 : decode cX8_init 121 = .ok (.aload_n 0, 1) := by decide +kernel
theorem dX8_init_122 : decode cX8_init 122 = .ok (.new 62, 3) := by decide +kernel
theorem dX8_init_125 : decode cX8_init 125 = .ok (.dup, 1) := by decide +kernel
theorem dX8_init_126 : decode cX8_init 126 = .ok (.invokespecial 64, 3) := by decide +kernel
theorem dX8_init_129 : decode cX8_init 129 = .ok (.putfield 69, 3) := by decide +kernel
theorem dX8_init_132 : decode cX8_init 132 = .ok (.aload_n 0, 1) := by decide +kernel
theorem dX8_init_133 : decode cX8_init 133 = .ok (.new 72, 3) := by decide +kernel
theorem dX8_init_136 : decode cX8_init 136 = .ok (.dup, 1) := by decide +kernel
theorem dX8_init_137 : decode cX8_init 137 = .ok (.invokespecial 74, 3) := by decide +kernel
theorem dX8_init_140 : decode cX8_init 140 = .ok (.putfield 75, 3) := by decide +kernel
theorem dX8_init_143 : decode cX8_init 143 = .ok (.aload_n 0, 1) := by decide +kernel
theorem dX8_init_144 : decode cX8_init 144 = .ok (.new 72, 3) := by decide +kernel
theorem dX8_init_147 : decode cX8_init 147 = .ok (.dup, 1) := by decide +kernel
theorem dX8_init_148 : decode cX8_init 148 = .ok (.invokespecial 74, 3) := by decide +kernel
theorem dX8_init_151 : decode cX8_init 151 = .ok (.putfield 79, 3) := by decide +kernel
theorem dX8_init_154 : decode cX8_init 154 = .ok (.iconst 0, 1) := by decide +kernel
theorem dX8_init_155 : decode cX8_init 155 = .ok (.istore_n 1, 1) := by decide +kernel
theorem dX8_init_156 : decode cX8_init 156 = .ok (.iload_n 1, 1) := by decide +kernel
theorem dX8_init_157 : decode cX8_init 157 = .ok (.ldc 82, 2) := by decide +kernel
theorem dX8_init_159 : decode cX8_init 159 = .ok (.invokevirtual 84, 3) := by decide +kernel
theorem dX8_init_162 : decode cX8_init 162 = .ok (.if_icmp .ge 23, 3) := by decide +kernel
theorem dX8_init_165 : decode cX8_init 165 = .ok (.aload_n 0, 1) := by decide +kernel
theorem dX8_init_166 : decode cX8_init 166 = .ok (.getfield 10, 3) := by decide +kernel
theorem dX8_init_169 : decode cX8_init 169 = .ok (.ldc 82, 2) := by decide +kernel
theorem dX8_init_171 : decode cX8_init 171 = .ok (.iload_n 1, 1) := by decide +kernel
theorem dX8_init_172 : decode cX8_init 172 = .ok (.invokevirtual 90, 3) := by decide +kernel
theorem dX8_init_175 : decode cX8_init 175 = .ok (.invokevirtual 94, 3) := by decide +kernel
theorem dX8_init_178 : decode cX8_init 178 = .ok (.pop, 1) := by decide +kernel
theorem dX8_init_179 : decode cX8_init 179 = .ok (.iinc 1 1, 3) := by decide +kernel
theorem dX8_init_182 : decode cX8_init 182 = .ok (.goto (-26), 3) := by decide +kernel
theorem dX8_init_185 : decode cX8_init 185 = .ok (.aload_n 0, 1) := by decide +kernel
theorem dX8_init_186 : decode cX8_init 186 = .ok (.invokevirtual 98, 3) := by decide +kernel
theorem dX8_init_189 : decode cX8_init 189 = .ok (.pop, 1) := by decide +kernel
theorem dX8_init_190 : decode cX8_init 190 = .ok (.aload_n 0, 1) := by decide +kernel
theorem dX8_init_191 : decode cX8_init 191 = .ok (.getfield 10, 3) := by decide +kernel
theorem dX8_init_194 : decode cX8_init 194 = .ok (.iconst 0, 1) := by decide +kernel
theorem dX8_init_195 : decode cX8_init 195 = .ok (.putfield 102, 3) := by decide +kernel
theorem dX8_init_198 : decode cX8_init 198 = .ok (.return_, 1) := by decide +kernel
theorem dX8_write_0 : decode cX8_write 0 = .ok (.iload_n 1, 1) := by decide +kernel
theorem dX8_write_1 : decode cX8_write 1 = .ok (.bipush 32, 2) := by decide +kernel
theorem dX8_write_3 : decode cX8_write 3 = .ok (.bipush 126, 2) := by decide +kernel
theorem dX8_write_5 : decode cX8_write 5 = .ok (.invokestatic 105, 3) := by decide +kernel
theorem dX8_write_8 : decode cX8_write 8 = .ok (.ifCond .ne 5, 3) := by decide +kernel
theorem dX8_write_11 : decode cX8_write 11 = .ok (.iconst (-1), 1) := by decide +kernel
theorem dX8_write_12 : decode cX8_write 12 = .ok (.ireturn, 1) := by decide +kernel
theorem dX8_write_13 : decode cX8_write 13 = .ok (.aload_n 0, 1) := by decide +kernel
theorem dX8_write_14 : decode cX8_write 14 = .ok (.getfield 10, 3) := by decide +kernel
theorem dX8_write_17 : decode cX8_write 17 = .ok (.iload_n 1, 1) := by decide +kernel
theorem dX8_write_18 : decode cX8_write 18 = .ok (.invokevirtual 94, 3) := by decide +kernel
theorem dX8_write_21 : decode cX8_write 21 = .ok (.ifCond .eq 13, 3) := by decide +kernel
theorem dX8_write_24 : decode cX8_write 24 = .ok (.aload_n 0, 1) := by decide +kernel
theorem dX8_write_25 : decode cX8_write 25 = .ok (.getfield 10, 3) := by decide +kernel
theorem dX8_write_28 : decode cX8_write 28 = .ok (.getfield 102, 3) := by decide +kernel
theorem dX8_write_31 : decode cX8_write 31 = .ok (.goto 5, 3) := by decide +kernel
theorem dX8_write_34 : decode cX8_write 34 = .ok (.bipush (-3), 2) := by decide +kernel
theorem dX8_write_36 : decode cX8_write 36 = .ok (.ireturn, 1) := by decide +kernel
theorem dX8_wipe_0 : decode cX8_wipe 0 = .ok (.aload_n 0, 1) := by decide +kernel
theorem dX8_wipe_1 : decode cX8_wipe 1 = .ok (.getfield 10, 3) := by decide +kernel
theorem dX8_wipe_4 : decode cX8_wipe 4 = .ok (.getfield 102, 3) := by decide +kernel
theorem dX8_wipe_7 : decode cX8_wipe 7 = .ok (.istore_n 1, 1) := by decide +kernel
theorem dX8_wipe_8 : decode cX8_wipe 8 = .ok (.aload_n 0, 1) := by decide +kernel
theorem dX8_wipe_9 : decode cX8_wipe 9 = .ok (.getfield 10, 3) := by decide +kernel
theorem dX8_wipe_12 : decode cX8_wipe 12 = .ok (.iconst 0, 1) := by decide +kernel
theorem dX8_wipe_13 : decode cX8_wipe 13 = .ok (.putfield 102, 3) := by decide +kernel
theorem dX8_wipe_16 : decode cX8_wipe 16 = .ok (.iload_n 1, 1) := by decide +kernel
theorem dX8_wipe_17 : decode cX8_wipe 17 = .ok (.ireturn, 1) := by decide +kernel
theorem dX8_fault_0 : decode cX8_fault 0 = .ok (.aload_n 0, 1) := by decide +kernel
theorem dX8_fault_1 : decode cX8_fault 1 = .ok (.getfield 19, 3) := by decide +kernel
theorem dX8_fault_4 : decode cX8_fault 4 = .ok (.aload_n 0, 1) := by decide +kernel
theorem dX8_fault_5 : decode cX8_fault 5 = .ok (.getfield 10, 3) := by decide +kernel
theorem dX8_fault_8 : decode cX8_fault 8 = .ok (.invokevirtual 109, 3) := by decide +kernel
theorem dX8_fault_11 : decode cX8_fault 11 = .ok (.ireturn, 1) := by decide +kernel
theorem dX8_lay_0 : decode cX8_lay 0 = .ok (.aload_n 0, 1) := by decide +kernel
theorem dX8_lay_1 : decode cX8_lay 1 = .ok (.invokevirtual 98, 3) := by decide +kernel
theorem dX8_lay_4 : decode cX8_lay 4 = .ok (.ifCond .eq 13, 3) := by decide +kernel
theorem dX8_lay_7 : decode cX8_lay 7 = .ok (.aload_n 0, 1) := by decide +kernel
theorem dX8_lay_8 : decode cX8_lay 8 = .ok (.getfield 26, 3) := by decide +kernel
theorem dX8_lay_11 : decode cX8_lay 11 = .ok (.getfield 113, 3) := by decide +kernel
theorem dX8_lay_14 : decode cX8_lay 14 = .ok (.goto 5, 3) := by decide +kernel
theorem dX8_lay_17 : decode cX8_lay 17 = .ok (.bipush (-2), 2) := by decide +kernel
theorem dX8_lay_19 : decode cX8_lay 19 = .ok (.ireturn, 1) := by decide +kernel
theorem dX8_place_0 : decode cX8_place 0 = .ok (.aload_n 0, 1) := by decide +kernel
theorem dX8_place_1 : decode cX8_place 1 = .ok (.getfield 26, 3) := by decide +kernel
theorem dX8_place_4 : decode cX8_place 4 = .ok (.iload_n 1, 1) := by decide +kernel
theorem dX8_place_5 : decode cX8_place 5 = .ok (.invokevirtual 116, 3) := by decide +kernel
theorem dX8_place_8 : decode cX8_place 8 = .ok (.ifCond .eq 17, 3) := by decide +kernel
theorem dX8_place_11 : decode cX8_place 11 = .ok (.aload_n 0, 1) := by decide +kernel
theorem dX8_place_12 : decode cX8_place 12 = .ok (.getfield 26, 3) := by decide +kernel
theorem dX8_place_15 : decode cX8_place 15 = .ok (.getfield 119, 3) := by decide +kernel
theorem dX8_place_18 : decode cX8_place 18 = .ok (.iload_n 1, 1) := by decide +kernel
theorem dX8_place_19 : decode cX8_place 19 = .ok (.invokevirtual 122, 3) := by decide +kernel
theorem dX8_place_22 : decode cX8_place 22 = .ok (.goto 4, 3) := by decide +kernel
theorem dX8_place_25 : decode cX8_place 25 = .ok (.iconst (-1), 1) := by decide +kernel
theorem dX8_place_26 : decode cX8_place 26 = .ok (.ireturn, 1) := by decide +kernel
theorem dX8_drum_0 : decode cX8_drum 0 = .ok (.aload_n 0, 1) := by decide +kernel
theorem dX8_drum_1 : decode cX8_drum 1 = .ok (.getfield 26, 3) := by decide +kernel
theorem dX8_drum_4 : decode cX8_drum 4 = .ok (.iload_n 1, 1) := by decide +kernel
theorem dX8_drum_5 : decode cX8_drum 5 = .ok (.invokevirtual 126, 3) := by decide +kernel
theorem dX8_drum_8 : decode cX8_drum 8 = .ok (.ifCond .eq 14, 3) := by decide +kernel
theorem dX8_drum_11 : decode cX8_drum 11 = .ok (.aload_n 0, 1) := by decide +kernel
theorem dX8_drum_12 : decode cX8_drum 12 = .ok (.getfield 26, 3) := by decide +kernel
theorem dX8_drum_15 : decode cX8_drum 15 = .ok (.iload_n 2, 1) := by decide +kernel
theorem dX8_drum_16 : decode cX8_drum 16 = .ok (.invokevirtual 116, 3) := by decide +kernel
theorem dX8_drum_19 : decode cX8_drum 19 = .ok (.ifCond .ne 5, 3) := by decide +kernel
theorem dX8_drum_22 : decode cX8_drum 22 = .ok (.iconst (-1), 1) := by decide +kernel
theorem dX8_drum_23 : decode cX8_drum 23 = .ok (.ireturn, 1) := by decide +kernel
theorem dX8_drum_24 : decode cX8_drum 24 = .ok (.iload_n 3, 1) := by decide +kernel
theorem dX8_drum_25 : decode cX8_drum 25 = .ok (.tableswitch 79 0 2 #[27, 41, 55], 27) := by decide +kernel
theorem dX8_drum_52 : decode cX8_drum 52 = .ok (.aload_n 0, 1) := by decide +kernel
theorem dX8_drum_53 : decode cX8_drum 53 = .ok (.getfield 33, 3) := by decide +kernel
theorem dX8_drum_56 : decode cX8_drum 56 = .ok (.aload_n 0, 1) := by decide +kernel
theorem dX8_drum_57 : decode cX8_drum 57 = .ok (.getfield 26, 3) := by decide +kernel
theorem dX8_drum_60 : decode cX8_drum 60 = .ok (.iload_n 1, 1) := by decide +kernel
theorem dX8_drum_61 : decode cX8_drum 61 = .ok (.iload_n 2, 1) := by decide +kernel
theorem dX8_drum_62 : decode cX8_drum 62 = .ok (.invokevirtual 129, 3) := by decide +kernel
theorem dX8_drum_65 : decode cX8_drum 65 = .ok (.ireturn, 1) := by decide +kernel
theorem dX8_drum_66 : decode cX8_drum 66 = .ok (.aload_n 0, 1) := by decide +kernel
theorem dX8_drum_67 : decode cX8_drum 67 = .ok (.getfield 33, 3) := by decide +kernel
theorem dX8_drum_70 : decode cX8_drum 70 = .ok (.aload_n 0, 1) := by decide +kernel
theorem dX8_drum_71 : decode cX8_drum 71 = .ok (.getfield 26, 3) := by decide +kernel
theorem dX8_drum_74 : decode cX8_drum 74 = .ok (.iload_n 1, 1) := by decide +kernel
theorem dX8_drum_75 : decode cX8_drum 75 = .ok (.iload_n 2, 1) := by decide +kernel
theorem dX8_drum_76 : decode cX8_drum 76 = .ok (.invokevirtual 133, 3) := by decide +kernel
theorem dX8_drum_79 : decode cX8_drum 79 = .ok (.ireturn, 1) := by decide +kernel
theorem dX8_drum_80 : decode cX8_drum 80 = .ok (.aload_n 0, 1) := by decide +kernel
theorem dX8_drum_81 : decode cX8_drum 81 = .ok (.getfield 33, 3) := by decide +kernel
theorem dX8_drum_84 : decode cX8_drum 84 = .ok (.aload_n 0, 1) := by decide +kernel
theorem dX8_drum_85 : decode cX8_drum 85 = .ok (.getfield 26, 3) := by decide +kernel
theorem dX8_drum_88 : decode cX8_drum 88 = .ok (.iload_n 1, 1) := by decide +kernel
theorem dX8_drum_89 : decode cX8_drum 89 = .ok (.iload_n 2, 1) := by decide +kernel
theorem dX8_drum_90 : decode cX8_drum 90 = .ok (.invokevirtual 129, 3) := by decide +kernel
theorem dX8_drum_93 : decode cX8_drum 93 = .ok (.aload_n 0, 1) := by decide +kernel
theorem dX8_drum_94 : decode cX8_drum 94 = .ok (.getfield 33, 3) := by decide +kernel
theorem dX8_drum_97 : decode cX8_drum 97 = .ok (.getfield 136, 3) := by decide +kernel
theorem dX8_drum_100 : decode cX8_drum 100 = .ok (.invokestatic 139, 3) := by decide +kernel
theorem dX8_drum_103 : decode cX8_drum 103 = .ok (.ireturn, 1) := by decide +kernel
theorem dX8_drum_104 : decode cX8_drum 104 = .ok (.iconst (-1), 1) := by decide +kernel
theorem dX8_drum_105 : decode cX8_drum 105 = .ok (.ireturn, 1) := by decide +kernel
theorem dX8_kind_0 : decode cX8_kind 0 = .ok (.aload_n 0, 1) := by decide +kernel
theorem dX8_kind_1 : decode cX8_kind 1 = .ok (.getfield 26, 3) := by decide +kernel
theorem dX8_kind_4 : decode cX8_kind 4 = .ok (.iload_n 1, 1) := by decide +kernel
theorem dX8_kind_5 : decode cX8_kind 5 = .ok (.invokevirtual 126, 3) := by decide +kernel
theorem dX8_kind_8 : decode cX8_kind 8 = .ok (.ifCond .eq 17, 3) := by decide +kernel
theorem dX8_kind_11 : decode cX8_kind 11 = .ok (.aload_n 0, 1) := by decide +kernel
theorem dX8_kind_12 : decode cX8_kind 12 = .ok (.getfield 26, 3) := by decide +kernel
theorem dX8_kind_15 : decode cX8_kind 15 = .ok (.getfield 143, 3) := by decide +kernel
theorem dX8_kind_18 : decode cX8_kind 18 = .ok (.iload_n 1, 1) := by decide +kernel
theorem dX8_kind_19 : decode cX8_kind 19 = .ok (.invokevirtual 122, 3) := by decide +kernel
theorem dX8_kind_22 : decode cX8_kind 22 = .ok (.goto 4, 3) := by decide +kernel
theorem dX8_kind_25 : decode cX8_kind 25 = .ok (.iconst (-1), 1) := by decide +kernel
theorem dX8_kind_26 : decode cX8_kind 26 = .ok (.ireturn, 1) := by decide +kernel
theorem dX8_traveller_0 : decode cX8_traveller 0 = .ok (.aload_n 0, 1) := by decide +kernel
theorem dX8_traveller_1 : decode cX8_traveller 1 = .ok (.getfield 26, 3) := by decide +kernel
theorem dX8_traveller_4 : decode cX8_traveller 4 = .ok (.iload_n 1, 1) := by decide +kernel
theorem dX8_traveller_5 : decode cX8_traveller 5 = .ok (.invokevirtual 146, 3) := by decide +kernel
theorem dX8_traveller_8 : decode cX8_traveller 8 = .ok (.ifCond .ne 5, 3) := by decide +kernel
theorem dX8_traveller_11 : decode cX8_traveller 11 = .ok (.iconst (-1), 1) := by decide +kernel
theorem dX8_traveller_12 : decode cX8_traveller 12 = .ok (.ireturn, 1) := by decide +kernel
theorem dX8_traveller_13 : decode cX8_traveller 13 = .ok (.aload_n 0, 1) := by decide +kernel
theorem dX8_traveller_14 : decode cX8_traveller 14 = .ok (.getfield 33, 3) := by decide +kernel
theorem dX8_traveller_17 : decode cX8_traveller 17 = .ok (.iload_n 1, 1) := by decide +kernel
theorem dX8_traveller_18 : decode cX8_traveller 18 = .ok (.invokevirtual 149, 3) := by decide +kernel
theorem dX8_traveller_21 : decode cX8_traveller 21 = .ok (.astore_n 3, 1) := by decide +kernel
theorem dX8_traveller_22 : decode cX8_traveller 22 = .ok (.iload_n 2, 1) := by decide +kernel
theorem dX8_traveller_23 : decode cX8_traveller 23 = .ok (.tableswitch 79 0 5 #[37, 42, 47, 52, 57, 74], 37) := by decide +kernel
theorem dX8_traveller_60 : decode cX8_traveller 60 = .ok (.aload_n 3, 1) := by decide +kernel
theorem dX8_traveller_61 : decode cX8_traveller 61 = .ok (.getfield 153, 3) := by decide +kernel
theorem dX8_traveller_64 : decode cX8_traveller 64 = .ok (.ireturn, 1) := by decide +kernel
theorem dX8_traveller_65 : decode cX8_traveller 65 = .ok (.aload_n 3, 1) := by decide +kernel
theorem dX8_traveller_66 : decode cX8_traveller 66 = .ok (.getfield 156, 3) := by decide +kernel
theorem dX8_traveller_69 : decode cX8_traveller 69 = .ok (.ireturn, 1) := by decide +kernel
theorem dX8_traveller_70 : decode cX8_traveller 70 = .ok (.aload_n 3, 1) := by decide +kernel
theorem dX8_traveller_71 : decode cX8_traveller 71 = .ok (.getfield 159, 3) := by decide +kernel
theorem dX8_traveller_74 : decode cX8_traveller 74 = .ok (.ireturn, 1) := by decide +kernel
theorem dX8_traveller_75 : decode cX8_traveller 75 = .ok (.aload_n 3, 1) := by decide +kernel
theorem dX8_traveller_76 : decode cX8_traveller 76 = .ok (.getfield 162, 3) := by decide +kernel
theorem dX8_traveller_79 : decode cX8_traveller 79 = .ok (.ireturn, 1) := by decide +kernel
theorem dX8_traveller_80 : decode cX8_traveller 80 = .ok (.aload_n 3, 1) := by decide +kernel
theorem dX8_traveller_81 : decode cX8_traveller 81 = .ok (.invokevirtual 165, 3) := by decide +kernel
theorem dX8_traveller_84 : decode cX8_traveller 84 = .ok (.ifCond .eq 10, 3) := by decide +kernel
theorem dX8_traveller_87 : decode cX8_traveller 87 = .ok (.aload_n 3, 1) := by decide +kernel
theorem dX8_traveller_88 : decode cX8_traveller 88 = .ok (.getfield 168, 3) := by decide +kernel
theorem dX8_traveller_91 : decode cX8_traveller 91 = .ok (.goto 5, 3) := by decide +kernel
theorem dX8_traveller_94 : decode cX8_traveller 94 = .ok (.bipush (-4), 2) := by decide +kernel
theorem dX8_traveller_96 : decode cX8_traveller 96 = .ok (.ireturn, 1) := by decide +kernel
theorem dX8_traveller_97 : decode cX8_traveller 97 = .ok (.aload_n 3, 1) := by decide +kernel
theorem dX8_traveller_98 : decode cX8_traveller 98 = .ok (.getfield 171, 3) := by decide +kernel
theorem dX8_traveller_101 : decode cX8_traveller 101 = .ok (.ireturn, 1) := by decide +kernel
theorem dX8_traveller_102 : decode cX8_traveller 102 = .ok (.iconst (-1), 1) := by decide +kernel
theorem dX8_traveller_103 : decode cX8_traveller 103 = .ok (.ireturn, 1) := by decide +kernel
theorem dX8_route_0 : decode cX8_route 0 = .ok (.aload_n 0, 1) := by decide +kernel
theorem dX8_route_1 : decode cX8_route 1 = .ok (.getfield 26, 3) := by decide +kernel
theorem dX8_route_4 : decode cX8_route 4 = .ok (.iload_n 1, 1) := by decide +kernel
theorem dX8_route_5 : decode cX8_route 5 = .ok (.invokevirtual 126, 3) := by decide +kernel
theorem dX8_route_8 : decode cX8_route 8 = .ok (.ifCond .eq 35, 3) := by decide +kernel
theorem dX8_route_11 : decode cX8_route 11 = .ok (.aload_n 0, 1) := by decide +kernel
theorem dX8_route_12 : decode cX8_route 12 = .ok (.getfield 26, 3) := by decide +kernel
theorem dX8_route_15 : decode cX8_route 15 = .ok (.iload_n 2, 1) := by decide +kernel
theorem dX8_route_16 : decode cX8_route 16 = .ok (.invokevirtual 116, 3) := by decide +kernel
theorem dX8_route_19 : decode cX8_route 19 = .ok (.ifCond .eq 24, 3) := by decide +kernel
theorem dX8_route_22 : decode cX8_route 22 = .ok (.aload_n 0, 1) := by decide +kernel
theorem dX8_route_23 : decode cX8_route 23 = .ok (.getfield 26, 3) := by decide +kernel
theorem dX8_route_26 : decode cX8_route 26 = .ok (.iload_n 3, 1) := by decide +kernel
theorem dX8_route_27 : decode cX8_route 27 = .ok (.invokevirtual 116, 3) := by decide +kernel
theorem dX8_route_30 : decode cX8_route 30 = .ok (.ifCond .eq 13, 3) := by decide +kernel
theorem dX8_route_33 : decode cX8_route 33 = .ok (.iload 4, 2) := by decide +kernel
theorem dX8_route_35 : decode cX8_route 35 = .ok (.iconst 0, 1) := by decide +kernel
theorem dX8_route_36 : decode cX8_route 36 = .ok (.iconst 1, 1) := by decide +kernel
theorem dX8_route_37 : decode cX8_route 37 = .ok (.invokestatic 105, 3) := by decide +kernel
theorem dX8_route_40 : decode cX8_route 40 = .ok (.ifCond .ne 5, 3) := by decide +kernel
theorem dX8_route_43 : decode cX8_route 43 = .ok (.iconst (-1), 1) := by decide +kernel
theorem dX8_route_44 : decode cX8_route 44 = .ok (.ireturn, 1) := by decide +kernel
theorem dX8_route_45 : decode cX8_route 45 = .ok (.aload_n 0, 1) := by decide +kernel
theorem dX8_route_46 : decode cX8_route 46 = .ok (.getfield 75, 3) := by decide +kernel
theorem dX8_route_49 : decode cX8_route 49 = .ok (.aload_n 0, 1) := by decide +kernel
theorem dX8_route_50 : decode cX8_route 50 = .ok (.getfield 26, 3) := by decide +kernel
theorem dX8_route_53 : decode cX8_route 53 = .ok (.aload_n 0, 1) := by decide +kernel
theorem dX8_route_54 : decode cX8_route 54 = .ok (.getfield 33, 3) := by decide +kernel
theorem dX8_route_57 : decode cX8_route 57 = .ok (.iload_n 1, 1) := by decide +kernel
theorem dX8_route_58 : decode cX8_route 58 = .ok (.iload_n 3, 1) := by decide +kernel
theorem dX8_route_59 : decode cX8_route 59 = .ok (.invokevirtual 174, 3) := by decide +kernel
theorem dX8_route_62 : decode cX8_route 62 = .ok (.iload 4, 2) := by decide +kernel
theorem dX8_route_64 : decode cX8_route 64 = .ok (.ifCond .ne 14, 3) := by decide +kernel
theorem dX8_route_67 : decode cX8_route 67 = .ok (.aload_n 0, 1) := by decide +kernel
theorem dX8_route_68 : decode cX8_route 68 = .ok (.getfield 75, 3) := by decide +kernel
theorem dX8_route_71 : decode cX8_route 71 = .ok (.iload_n 2, 1) := by decide +kernel
theorem dX8_route_72 : decode cX8_route 72 = .ok (.invokevirtual 178, 3) := by decide +kernel
theorem dX8_route_75 : decode cX8_route 75 = .ok (.goto 15, 3) := by decide +kernel
theorem dX8_route_78 : decode cX8_route 78 = .ok (.aload_n 0, 1) := by decide +kernel
theorem dX8_route_79 : decode cX8_route 79 = .ok (.getfield 75, 3) := by decide +kernel
theorem dX8_route_82 : decode cX8_route 82 = .ok (.aload_n 0, 1) := by decide +kernel
theorem dX8_route_83 : decode cX8_route 83 = .ok (.getfield 26, 3) := by decide +kernel
theorem dX8_route_86 : decode cX8_route 86 = .ok (.iload_n 2, 1) := by decide +kernel
theorem dX8_route_87 : decode cX8_route 87 = .ok (.invokevirtual 181, 3) := by decide +kernel
theorem dX8_route_90 : decode cX8_route 90 = .ok (.ireturn, 1) := by decide +kernel
theorem dX8_truth_0 : decode cX8_truth 0 = .ok (.aload_n 0, 1) := by decide +kernel
theorem dX8_truth_1 : decode cX8_truth 1 = .ok (.getfield 26, 3) := by decide +kernel
theorem dX8_truth_4 : decode cX8_truth 4 = .ok (.iload_n 1, 1) := by decide +kernel
theorem dX8_truth_5 : decode cX8_truth 5 = .ok (.invokevirtual 116, 3) := by decide +kernel
theorem dX8_truth_8 : decode cX8_truth 8 = .ok (.ifCond .eq 14, 3) := by decide +kernel
theorem dX8_truth_11 : decode cX8_truth 11 = .ok (.aload_n 0, 1) := by decide +kernel
theorem dX8_truth_12 : decode cX8_truth 12 = .ok (.getfield 26, 3) := by decide +kernel
theorem dX8_truth_15 : decode cX8_truth 15 = .ok (.iload_n 2, 1) := by decide +kernel
theorem dX8_truth_16 : decode cX8_truth 16 = .ok (.invokevirtual 116, 3) := by decide +kernel
theorem dX8_truth_19 : decode cX8_truth 19 = .ok (.ifCond .ne 5, 3) := by decide +kernel
theorem dX8_truth_22 : decode cX8_truth 22 = .ok (.iconst (-1), 1) := by decide +kernel
theorem dX8_truth_23 : decode cX8_truth 23 = .ok (.ireturn, 1) := by decide +kernel
theorem dX8_truth_24 : decode cX8_truth 24 = .ok (.aload_n 0, 1) := by decide +kernel
theorem dX8_truth_25 : decode cX8_truth 25 = .ok (.getfield 75, 3) := by decide +kernel
theorem dX8_truth_28 : decode cX8_truth 28 = .ok (.aload_n 0, 1) := by decide +kernel
theorem dX8_truth_29 : decode cX8_truth 29 = .ok (.getfield 26, 3) := by decide +kernel
theorem dX8_truth_32 : decode cX8_truth 32 = .ok (.aload_n 0, 1) := by decide +kernel
theorem dX8_truth_33 : decode cX8_truth 33 = .ok (.getfield 33, 3) := by decide +kernel
theorem dX8_truth_36 : decode cX8_truth 36 = .ok (.getfield 136, 3) := by decide +kernel
theorem dX8_truth_39 : decode cX8_truth 39 = .ok (.iload_n 2, 1) := by decide +kernel
theorem dX8_truth_40 : decode cX8_truth 40 = .ok (.invokevirtual 185, 3) := by decide +kernel
theorem dX8_truth_43 : decode cX8_truth 43 = .ok (.aload_n 0, 1) := by decide +kernel
theorem dX8_truth_44 : decode cX8_truth 44 = .ok (.getfield 75, 3) := by decide +kernel
theorem dX8_truth_47 : decode cX8_truth 47 = .ok (.iload_n 1, 1) := by decide +kernel
theorem dX8_truth_48 : decode cX8_truth 48 = .ok (.invokevirtual 178, 3) := by decide +kernel
theorem dX8_truth_51 : decode cX8_truth 51 = .ok (.ireturn, 1) := by decide +kernel
theorem dX8_pass_0 : decode cX8_pass 0 = .ok (.iload_n 1, 1) := by decide +kernel
theorem dX8_pass_1 : decode cX8_pass 1 = .ok (.iconst 1, 1) := by decide +kernel
theorem dX8_pass_2 : decode cX8_pass 2 = .ok (.bipush 24, 2) := by decide +kernel
theorem dX8_pass_4 : decode cX8_pass 4 = .ok (.invokestatic 105, 3) := by decide +kernel
theorem dX8_pass_7 : decode cX8_pass 7 = .ok (.ifCond .ne 5, 3) := by decide +kernel
theorem dX8_pass_10 : decode cX8_pass 10 = .ok (.iconst (-1), 1) := by decide +kernel
theorem dX8_pass_11 : decode cX8_pass 11 = .ok (.ireturn, 1) := by decide +kernel
theorem dX8_pass_12 : decode cX8_pass 12 = .ok (.aload_n 0, 1) := by decide +kernel
theorem dX8_pass_13 : decode cX8_pass 13 = .ok (.getfield 42, 3) := by decide +kernel
theorem dX8_pass_16 : decode cX8_pass 16 = .ok (.aload_n 0, 1) := by decide +kernel
theorem dX8_pass_17 : decode cX8_pass 17 = .ok (.getfield 33, 3) := by decide +kernel
theorem dX8_pass_20 : decode cX8_pass 20 = .ok (.invokevirtual 189, 3) := by decide +kernel
theorem dX8_pass_23 : decode cX8_pass 23 = .ok (.iconst 0, 1) := by decide +kernel
theorem dX8_pass_24 : decode cX8_pass 24 = .ok (.istore_n 2, 1) := by decide +kernel
theorem dX8_pass_25 : decode cX8_pass 25 = .ok (.iload_n 2, 1) := by decide +kernel
theorem dX8_pass_26 : decode cX8_pass 26 = .ok (.iload_n 1, 1) := by decide +kernel
theorem dX8_pass_27 : decode cX8_pass 27 = .ok (.if_icmp .ge 17, 3) := by decide +kernel
theorem dX8_pass_30 : decode cX8_pass 30 = .ok (.aload_n 0, 1) := by decide +kernel
theorem dX8_pass_31 : decode cX8_pass 31 = .ok (.aload_n 0, 1) := by decide +kernel
theorem dX8_pass_32 : decode cX8_pass 32 = .ok (.getfield 33, 3) := by decide +kernel
theorem dX8_pass_35 : decode cX8_pass 35 = .ok (.invokevirtual 192, 3) := by decide +kernel
theorem dX8_pass_38 : decode cX8_pass 38 = .ok (.iinc 2 1, 3) := by decide +kernel
theorem dX8_pass_41 : decode cX8_pass 41 = .ok (.goto (-16), 3) := by decide +kernel
theorem dX8_pass_44 : decode cX8_pass 44 = .ok (.aload_n 0, 1) := by decide +kernel
theorem dX8_pass_45 : decode cX8_pass 45 = .ok (.getfield 33, 3) := by decide +kernel
theorem dX8_pass_48 : decode cX8_pass 48 = .ok (.getfield 195, 3) := by decide +kernel
theorem dX8_pass_51 : decode cX8_pass 51 = .ok (.ireturn, 1) := by decide +kernel
theorem dX8_rain_0 : decode cX8_rain 0 = .ok (.iload_n 1, 1) := by decide +kernel
theorem dX8_rain_1 : decode cX8_rain 1 = .ok (.iconst 0, 1) := by decide +kernel
theorem dX8_rain_2 : decode cX8_rain 2 = .ok (.iconst 3, 1) := by decide +kernel
theorem dX8_rain_3 : decode cX8_rain 3 = .ok (.invokestatic 105, 3) := by decide +kernel
theorem dX8_rain_6 : decode cX8_rain 6 = .ok (.ifCond .ne 5, 3) := by decide +kernel
theorem dX8_rain_9 : decode cX8_rain 9 = .ok (.iconst (-1), 1) := by decide +kernel
theorem dX8_rain_10 : decode cX8_rain 10 = .ok (.ireturn, 1) := by decide +kernel
theorem dX8_rain_11 : decode cX8_rain 11 = .ok (.aload_n 0, 1) := by decide +kernel
theorem dX8_rain_12 : decode cX8_rain 12 = .ok (.getfield 42, 3) := by decide +kernel
theorem dX8_rain_15 : decode cX8_rain 15 = .ok (.aload_n 0, 1) := by decide +kernel
theorem dX8_rain_16 : decode cX8_rain 16 = .ok (.getfield 33, 3) := by decide +kernel
theorem dX8_rain_19 : decode cX8_rain 19 = .ok (.invokevirtual 189, 3) := by decide +kernel
theorem dX8_rain_22 : decode cX8_rain 22 = .ok (.aload_n 0, 1) := by decide +kernel
theorem dX8_rain_23 : decode cX8_rain 23 = .ok (.getfield 33, 3) := by decide +kernel
theorem dX8_rain_26 : decode cX8_rain 26 = .ok (.getfield 136, 3) := by decide +kernel
theorem dX8_rain_29 : decode cX8_rain 29 = .ok (.istore_n 2, 1) := by decide +kernel
theorem dX8_rain_30 : decode cX8_rain 30 = .ok (.aload_n 0, 1) := by decide +kernel
theorem dX8_rain_31 : decode cX8_rain 31 = .ok (.getfield 33, 3) := by decide +kernel
theorem dX8_rain_34 : decode cX8_rain 34 = .ok (.iload_n 1, 1) := by decide +kernel
theorem dX8_rain_35 : decode cX8_rain 35 = .ok (.putfield 136, 3) := by decide +kernel
theorem dX8_rain_38 : decode cX8_rain 38 = .ok (.iload_n 2, 1) := by decide +kernel
theorem dX8_rain_39 : decode cX8_rain 39 = .ok (.ireturn, 1) := by decide +kernel
theorem dX8_retune_0 : decode cX8_retune 0 = .ok (.aload_n 0, 1) := by decide +kernel
theorem dX8_retune_1 : decode cX8_retune 1 = .ok (.getfield 26, 3) := by decide +kernel
theorem dX8_retune_4 : decode cX8_retune 4 = .ok (.iload_n 1, 1) := by decide +kernel
theorem dX8_retune_5 : decode cX8_retune 5 = .ok (.invokevirtual 126, 3) := by decide +kernel
theorem dX8_retune_8 : decode cX8_retune 8 = .ok (.ifCond .eq 23, 3) := by decide +kernel
theorem dX8_retune_11 : decode cX8_retune 11 = .ok (.aload_n 0, 1) := by decide +kernel
theorem dX8_retune_12 : decode cX8_retune 12 = .ok (.getfield 26, 3) := by decide +kernel
theorem dX8_retune_15 : decode cX8_retune 15 = .ok (.iload_n 2, 1) := by decide +kernel
theorem dX8_retune_16 : decode cX8_retune 16 = .ok (.invokevirtual 116, 3) := by decide +kernel
theorem dX8_retune_19 : decode cX8_retune 19 = .ok (.ifCond .eq 12, 3) := by decide +kernel
theorem dX8_retune_22 : decode cX8_retune 22 = .ok (.iload_n 3, 1) := by decide +kernel
theorem dX8_retune_23 : decode cX8_retune 23 = .ok (.iconst 0, 1) := by decide +kernel
theorem dX8_retune_24 : decode cX8_retune 24 = .ok (.iconst 3, 1) := by decide +kernel
theorem dX8_retune_25 : decode cX8_retune 25 = .ok (.invokestatic 105, 3) := by decide +kernel
theorem dX8_retune_28 : decode cX8_retune 28 = .ok (.ifCond .ne 5, 3) := by decide +kernel
theorem dX8_retune_31 : decode cX8_retune 31 = .ok (.iconst (-1), 1) := by decide +kernel
theorem dX8_retune_32 : decode cX8_retune 32 = .ok (.ireturn, 1) := by decide +kernel
theorem dX8_retune_33 : decode cX8_retune 33 = .ok (.aload_n 0, 1) := by decide +kernel
theorem dX8_retune_34 : decode cX8_retune 34 = .ok (.getfield 42, 3) := by decide +kernel
theorem dX8_retune_37 : decode cX8_retune 37 = .ok (.aload_n 0, 1) := by decide +kernel
theorem dX8_retune_38 : decode cX8_retune 38 = .ok (.getfield 33, 3) := by decide +kernel
theorem dX8_retune_41 : decode cX8_retune 41 = .ok (.invokevirtual 189, 3) := by decide +kernel
theorem dX8_retune_44 : decode cX8_retune 44 = .ok (.aload_n 0, 1) := by decide +kernel
theorem dX8_retune_45 : decode cX8_retune 45 = .ok (.getfield 33, 3) := by decide +kernel
theorem dX8_retune_48 : decode cX8_retune 48 = .ok (.aload_n 0, 1) := by decide +kernel
theorem dX8_retune_49 : decode cX8_retune 49 = .ok (.getfield 26, 3) := by decide +kernel
theorem dX8_retune_52 : decode cX8_retune 52 = .ok (.iload_n 1, 1) := by decide +kernel
theorem dX8_retune_53 : decode cX8_retune 53 = .ok (.iload_n 2, 1) := by decide +kernel
theorem dX8_retune_54 : decode cX8_retune 54 = .ok (.invokevirtual 129, 3) := by decide +kernel
theorem dX8_retune_57 : decode cX8_retune 57 = .ok (.istore 4, 2) := by decide +kernel
theorem dX8_retune_59 : decode cX8_retune 59 = .ok (.aload_n 0, 1) := by decide +kernel
theorem dX8_retune_60 : decode cX8_retune 60 = .ok (.getfield 33, 3) := by decide +kernel
theorem dX8_retune_63 : decode cX8_retune 63 = .ok (.iload_n 1, 1) := by decide +kernel
theorem dX8_retune_64 : decode cX8_retune 64 = .ok (.iload_n 2, 1) := by decide +kernel
theorem dX8_retune_65 : decode cX8_retune 65 = .ok (.iload_n 3, 1) := by decide +kernel
theorem dX8_retune_66 : decode cX8_retune 66 = .ok (.invokevirtual 198, 3) := by decide +kernel
theorem dX8_retune_69 : decode cX8_retune 69 = .ok (.iload 4, 2) := by decide +kernel
theorem dX8_retune_71 : decode cX8_retune 71 = .ok (.ireturn, 1) := by decide +kernel
theorem dX8_give_0 : decode cX8_give 0 = .ok (.aload_n 0, 1) := by decide +kernel
theorem dX8_give_1 : decode cX8_give 1 = .ok (.getfield 26, 3) := by decide +kernel
theorem dX8_give_4 : decode cX8_give 4 = .ok (.iload_n 1, 1) := by decide +kernel
theorem dX8_give_5 : decode cX8_give 5 = .ok (.invokevirtual 146, 3) := by decide +kernel
theorem dX8_give_8 : decode cX8_give 8 = .ok (.ifCond .eq 14, 3) := by decide +kernel
theorem dX8_give_11 : decode cX8_give 11 = .ok (.aload_n 0, 1) := by decide +kernel
theorem dX8_give_12 : decode cX8_give 12 = .ok (.getfield 26, 3) := by decide +kernel
theorem dX8_give_15 : decode cX8_give 15 = .ok (.iload_n 2, 1) := by decide +kernel
theorem dX8_give_16 : decode cX8_give 16 = .ok (.invokevirtual 126, 3) := by decide +kernel
theorem dX8_give_19 : decode cX8_give 19 = .ok (.ifCond .ne 5, 3) := by decide +kernel
theorem dX8_give_22 : decode cX8_give 22 = .ok (.iconst (-1), 1) := by decide +kernel
theorem dX8_give_23 : decode cX8_give 23 = .ok (.ireturn, 1) := by decide +kernel
theorem dX8_give_24 : decode cX8_give 24 = .ok (.aload_n 0, 1) := by decide +kernel
theorem dX8_give_25 : decode cX8_give 25 = .ok (.getfield 33, 3) := by decide +kernel
theorem dX8_give_28 : decode cX8_give 28 = .ok (.iload_n 1, 1) := by decide +kernel
theorem dX8_give_29 : decode cX8_give 29 = .ok (.invokevirtual 149, 3) := by decide +kernel
theorem dX8_give_32 : decode cX8_give 32 = .ok (.astore_n 3, 1) := by decide +kernel
theorem dX8_give_33 : decode cX8_give 33 = .ok (.aload_n 3, 1) := by decide +kernel
theorem dX8_give_34 : decode cX8_give 34 = .ok (.getfield 162, 3) := by decide +kernel
theorem dX8_give_37 : decode cX8_give 37 = .ok (.ifCond .eq 6, 3) := by decide +kernel
theorem dX8_give_40 : decode cX8_give 40 = .ok (.bipush (-2), 2) := by decide +kernel
theorem dX8_give_42 : decode cX8_give 42 = .ok (.ireturn, 1) := by decide +kernel
theorem dX8_give_43 : decode cX8_give 43 = .ok (.aload_n 0, 1) := by decide +kernel
theorem dX8_give_44 : decode cX8_give 44 = .ok (.getfield 42, 3) := by decide +kernel
theorem dX8_give_47 : decode cX8_give 47 = .ok (.aload_n 0, 1) := by decide +kernel
theorem dX8_give_48 : decode cX8_give 48 = .ok (.getfield 33, 3) := by decide +kernel
theorem dX8_give_51 : decode cX8_give 51 = .ok (.invokevirtual 189, 3) := by decide +kernel
theorem dX8_give_54 : decode cX8_give 54 = .ok (.aload_n 3, 1) := by decide +kernel
theorem dX8_give_55 : decode cX8_give 55 = .ok (.getfield 159, 3) := by decide +kernel
theorem dX8_give_58 : decode cX8_give 58 = .ok (.istore 4, 2) := by decide +kernel
theorem dX8_give_60 : decode cX8_give 60 = .ok (.aload_n 3, 1) := by decide +kernel
theorem dX8_give_61 : decode cX8_give 61 = .ok (.iload_n 2, 1) := by decide +kernel
theorem dX8_give_62 : decode cX8_give 62 = .ok (.putfield 159, 3) := by decide +kernel
theorem dX8_give_65 : decode cX8_give 65 = .ok (.iload 4, 2) := by decide +kernel
theorem dX8_give_67 : decode cX8_give 67 = .ok (.ireturn, 1) := by decide +kernel
theorem dX8_send_0 : decode cX8_send 0 = .ok (.aload_n 0, 1) := by decide +kernel
theorem dX8_send_1 : decode cX8_send 1 = .ok (.getfield 26, 3) := by decide +kernel
theorem dX8_send_4 : decode cX8_send 4 = .ok (.iload_n 1, 1) := by decide +kernel
theorem dX8_send_5 : decode cX8_send 5 = .ok (.invokevirtual 146, 3) := by decide +kernel
theorem dX8_send_8 : decode cX8_send 8 = .ok (.ifCond .eq 14, 3) := by decide +kernel
theorem dX8_send_11 : decode cX8_send 11 = .ok (.aload_n 0, 1) := by decide +kernel
theorem dX8_send_12 : decode cX8_send 12 = .ok (.getfield 26, 3) := by decide +kernel
theorem dX8_send_15 : decode cX8_send 15 = .ok (.iload_n 2, 1) := by decide +kernel
theorem dX8_send_16 : decode cX8_send 16 = .ok (.invokevirtual 116, 3) := by decide +kernel
theorem dX8_send_19 : decode cX8_send 19 = .ok (.ifCond .ne 5, 3) := by decide +kernel
theorem dX8_send_22 : decode cX8_send 22 = .ok (.iconst (-1), 1) := by decide +kernel
theorem dX8_send_23 : decode cX8_send 23 = .ok (.ireturn, 1) := by decide +kernel
theorem dX8_send_24 : decode cX8_send 24 = .ok (.aload_n 0, 1) := by decide +kernel
theorem dX8_send_25 : decode cX8_send 25 = .ok (.getfield 33, 3) := by decide +kernel
theorem dX8_send_28 : decode cX8_send 28 = .ok (.iload_n 1, 1) := by decide +kernel
theorem dX8_send_29 : decode cX8_send 29 = .ok (.invokevirtual 149, 3) := by decide +kernel
theorem dX8_send_32 : decode cX8_send 32 = .ok (.astore_n 3, 1) := by decide +kernel
theorem dX8_send_33 : decode cX8_send 33 = .ok (.aload_n 3, 1) := by decide +kernel
theorem dX8_send_34 : decode cX8_send 34 = .ok (.getfield 162, 3) := by decide +kernel
theorem dX8_send_37 : decode cX8_send 37 = .ok (.iconst 2, 1) := by decide +kernel
theorem dX8_send_38 : decode cX8_send 38 = .ok (.if_icmp .ne 6, 3) := by decide +kernel
theorem dX8_send_41 : decode cX8_send 41 = .ok (.bipush (-2), 2) := by decide +kernel
theorem dX8_send_43 : decode cX8_send 43 = .ok (.ireturn, 1) := by decide +kernel
theorem dX8_send_44 : decode cX8_send 44 = .ok (.aload_n 0, 1) := by decide +kernel
theorem dX8_send_45 : decode cX8_send 45 = .ok (.getfield 42, 3) := by decide +kernel
theorem dX8_send_48 : decode cX8_send 48 = .ok (.aload_n 0, 1) := by decide +kernel
theorem dX8_send_49 : decode cX8_send 49 = .ok (.getfield 33, 3) := by decide +kernel
theorem dX8_send_52 : decode cX8_send 52 = .ok (.invokevirtual 189, 3) := by decide +kernel
theorem dX8_send_55 : decode cX8_send 55 = .ok (.aload_n 3, 1) := by decide +kernel
theorem dX8_send_56 : decode cX8_send 56 = .ok (.iload_n 2, 1) := by decide +kernel
theorem dX8_send_57 : decode cX8_send 57 = .ok (.invokevirtual 202, 3) := by decide +kernel
theorem dX8_send_60 : decode cX8_send 60 = .ok (.aload_n 3, 1) := by decide +kernel
theorem dX8_send_61 : decode cX8_send 61 = .ok (.getfield 162, 3) := by decide +kernel
theorem dX8_send_64 : decode cX8_send 64 = .ok (.iconst 1, 1) := by decide +kernel
theorem dX8_send_65 : decode cX8_send 65 = .ok (.if_icmp .ne 7, 3) := by decide +kernel
theorem dX8_send_68 : decode cX8_send 68 = .ok (.iconst 1, 1) := by decide +kernel
theorem dX8_send_69 : decode cX8_send 69 = .ok (.goto 4, 3) := by decide +kernel
theorem dX8_send_72 : decode cX8_send 72 = .ok (.iconst 0, 1) := by decide +kernel
theorem dX8_send_73 : decode cX8_send 73 = .ok (.ireturn, 1) := by decide +kernel
theorem dX8_undo_0 : decode cX8_undo 0 = .ok (.aload_n 0, 1) := by decide +kernel
theorem dX8_undo_1 : decode cX8_undo 1 = .ok (.getfield 42, 3) := by decide +kernel
theorem dX8_undo_4 : decode cX8_undo 4 = .ok (.aload_n 0, 1) := by decide +kernel
theorem dX8_undo_5 : decode cX8_undo 5 = .ok (.getfield 33, 3) := by decide +kernel
theorem dX8_undo_8 : decode cX8_undo 8 = .ok (.invokevirtual 205, 3) := by decide +kernel
theorem dX8_undo_11 : decode cX8_undo 11 = .ok (.ifCond .eq 13, 3) := by decide +kernel
theorem dX8_undo_14 : decode cX8_undo 14 = .ok (.aload_n 0, 1) := by decide +kernel
theorem dX8_undo_15 : decode cX8_undo 15 = .ok (.getfield 42, 3) := by decide +kernel
theorem dX8_undo_18 : decode cX8_undo 18 = .ok (.getfield 209, 3) := by decide +kernel
theorem dX8_undo_21 : decode cX8_undo 21 = .ok (.goto 5, 3) := by decide +kernel
theorem dX8_undo_24 : decode cX8_undo 24 = .ok (.bipush (-2), 2) := by decide +kernel
theorem dX8_undo_26 : decode cX8_undo 26 = .ok (.ireturn, 1) := by decide +kernel
theorem dX8_arrives_0 : decode cX8_arrives 0 = .ok (.aload_n 0, 1) := by decide +kernel
theorem dX8_arrives_1 : decode cX8_arrives 1 = .ok (.getfield 26, 3) := by decide +kernel
theorem dX8_arrives_4 : decode cX8_arrives 4 = .ok (.iload_n 1, 1) := by decide +kernel
theorem dX8_arrives_5 : decode cX8_arrives 5 = .ok (.invokevirtual 146, 3) := by decide +kernel
theorem dX8_arrives_8 : decode cX8_arrives 8 = .ok (.ifCond .ne 5, 3) := by decide +kernel
theorem dX8_arrives_11 : decode cX8_arrives 11 = .ok (.iconst (-1), 1) := by decide +kernel
theorem dX8_arrives_12 : decode cX8_arrives 12 = .ok (.ireturn, 1) := by decide +kernel
theorem dX8_arrives_13 : decode cX8_arrives 13 = .ok (.aload_n 0, 1) := by decide +kernel
theorem dX8_arrives_14 : decode cX8_arrives 14 = .ok (.getfield 65, 3) := by decide +kernel
theorem dX8_arrives_17 : decode cX8_arrives 17 = .ok (.aload_n 0, 1) := by decide +kernel
theorem dX8_arrives_18 : decode cX8_arrives 18 = .ok (.getfield 33, 3) := by decide +kernel
theorem dX8_arrives_21 : decode cX8_arrives 21 = .ok (.iload_n 1, 1) := by decide +kernel
theorem dX8_arrives_22 : decode cX8_arrives 22 = .ok (.invokevirtual 149, 3) := by decide +kernel
theorem dX8_arrives_25 : decode cX8_arrives 25 = .ok (.invokevirtual 212, 3) := by decide +kernel
theorem dX8_arrives_28 : decode cX8_arrives 28 = .ok (.aload_n 0, 1) := by decide +kernel
theorem dX8_arrives_29 : decode cX8_arrives 29 = .ok (.aload_n 0, 1) := by decide +kernel
theorem dX8_arrives_30 : decode cX8_arrives 30 = .ok (.getfield 33, 3) := by decide +kernel
theorem dX8_arrives_33 : decode cX8_arrives 33 = .ok (.iconst 1, 1) := by decide +kernel
theorem dX8_arrives_34 : decode cX8_arrives 34 = .ok (.invokevirtual 216, 3) := by decide +kernel
theorem dX8_arrives_37 : decode cX8_arrives 37 = .ok (.ireturn, 1) := by decide +kernel
theorem dX8_loses_0 : decode cX8_loses 0 = .ok (.aload_n 0, 1) := by decide +kernel
theorem dX8_loses_1 : decode cX8_loses 1 = .ok (.getfield 26, 3) := by decide +kernel
theorem dX8_loses_4 : decode cX8_loses 4 = .ok (.iload_n 1, 1) := by decide +kernel
theorem dX8_loses_5 : decode cX8_loses 5 = .ok (.invokevirtual 146, 3) := by decide +kernel
theorem dX8_loses_8 : decode cX8_loses 8 = .ok (.ifCond .ne 5, 3) := by decide +kernel
theorem dX8_loses_11 : decode cX8_loses 11 = .ok (.iconst (-1), 1) := by decide +kernel
theorem dX8_loses_12 : decode cX8_loses 12 = .ok (.ireturn, 1) := by decide +kernel
theorem dX8_loses_13 : decode cX8_loses 13 = .ok (.aload_n 0, 1) := by decide +kernel
theorem dX8_loses_14 : decode cX8_loses 14 = .ok (.getfield 65, 3) := by decide +kernel
theorem dX8_loses_17 : decode cX8_loses 17 = .ok (.aload_n 0, 1) := by decide +kernel
theorem dX8_loses_18 : decode cX8_loses 18 = .ok (.getfield 33, 3) := by decide +kernel
theorem dX8_loses_21 : decode cX8_loses 21 = .ok (.iload_n 1, 1) := by decide +kernel
theorem dX8_loses_22 : decode cX8_loses 22 = .ok (.invokevirtual 149, 3) := by decide +kernel
theorem dX8_loses_25 : decode cX8_loses 25 = .ok (.invokevirtual 212, 3) := by decide +kernel
theorem dX8_loses_28 : decode cX8_loses 28 = .ok (.aload_n 0, 1) := by decide +kernel
theorem dX8_loses_29 : decode cX8_loses 29 = .ok (.aload_n 0, 1) := by decide +kernel
theorem dX8_loses_30 : decode cX8_loses 30 = .ok (.getfield 33, 3) := by decide +kernel
theorem dX8_loses_33 : decode cX8_loses 33 = .ok (.iconst 2, 1) := by decide +kernel
theorem dX8_loses_34 : decode cX8_loses 34 = .ok (.invokevirtual 216, 3) := by decide +kernel
theorem dX8_loses_37 : decode cX8_loses 37 = .ok (.ireturn, 1) := by decide +kernel
theorem dX8_led_0 : decode cX8_led 0 = .ok (.aload_n 0, 1) := by decide +kernel
theorem dX8_led_1 : decode cX8_led 1 = .ok (.getfield 26, 3) := by decide +kernel
theorem dX8_led_4 : decode cX8_led 4 = .ok (.iload_n 1, 1) := by decide +kernel
theorem dX8_led_5 : decode cX8_led 5 = .ok (.invokevirtual 126, 3) := by decide +kernel
theorem dX8_led_8 : decode cX8_led 8 = .ok (.ifCond .eq 25, 3) := by decide +kernel
theorem dX8_led_11 : decode cX8_led 11 = .ok (.aload_n 0, 1) := by decide +kernel
theorem dX8_led_12 : decode cX8_led 12 = .ok (.getfield 26, 3) := by decide +kernel
theorem dX8_led_15 : decode cX8_led 15 = .ok (.iload_n 2, 1) := by decide +kernel
theorem dX8_led_16 : decode cX8_led 16 = .ok (.invokevirtual 116, 3) := by decide +kernel
theorem dX8_led_19 : decode cX8_led 19 = .ok (.ifCond .eq 14, 3) := by decide +kernel
theorem dX8_led_22 : decode cX8_led 22 = .ok (.aload_n 0, 1) := by decide +kernel
theorem dX8_led_23 : decode cX8_led 23 = .ok (.getfield 26, 3) := by decide +kernel
theorem dX8_led_26 : decode cX8_led 26 = .ok (.iload_n 3, 1) := by decide +kernel
theorem dX8_led_27 : decode cX8_led 27 = .ok (.invokevirtual 116, 3) := by decide +kernel
theorem dX8_led_30 : decode cX8_led 30 = .ok (.ifCond .ne 5, 3) := by decide +kernel
theorem dX8_led_33 : decode cX8_led 33 = .ok (.iconst (-1), 1) := by decide +kernel
theorem dX8_led_34 : decode cX8_led 34 = .ok (.ireturn, 1) := by decide +kernel
theorem dX8_led_35 : decode cX8_led 35 = .ok (.aload_n 0, 1) := by decide +kernel
theorem dX8_led_36 : decode cX8_led 36 = .ok (.iload_n 1, 1) := by decide +kernel
theorem dX8_led_37 : decode cX8_led 37 = .ok (.iload_n 2, 1) := by decide +kernel
theorem dX8_led_38 : decode cX8_led 38 = .ok (.iload_n 3, 1) := by decide +kernel
theorem dX8_led_39 : decode cX8_led 39 = .ok (.invokevirtual 220, 3) := by decide +kernel
theorem dX8_led_42 : decode cX8_led 42 = .ok (.ireturn, 1) := by decide +kernel
theorem dX8_fastest_0 : decode cX8_fastest 0 = .ok (.aload_n 0, 1) := by decide +kernel
theorem dX8_fastest_1 : decode cX8_fastest 1 = .ok (.getfield 26, 3) := by decide +kernel
theorem dX8_fastest_4 : decode cX8_fastest 4 = .ok (.iload_n 1, 1) := by decide +kernel
theorem dX8_fastest_5 : decode cX8_fastest 5 = .ok (.invokevirtual 146, 3) := by decide +kernel
theorem dX8_fastest_8 : decode cX8_fastest 8 = .ok (.ifCond .ne 5, 3) := by decide +kernel
theorem dX8_fastest_11 : decode cX8_fastest 11 = .ok (.iconst (-1), 1) := by decide +kernel
theorem dX8_fastest_12 : decode cX8_fastest 12 = .ok (.ireturn, 1) := by decide +kernel
theorem dX8_fastest_13 : decode cX8_fastest 13 = .ok (.aload_n 0, 1) := by decide +kernel
theorem dX8_fastest_14 : decode cX8_fastest 14 = .ok (.getfield 33, 3) := by decide +kernel
theorem dX8_fastest_17 : decode cX8_fastest 17 = .ok (.iload_n 1, 1) := by decide +kernel
theorem dX8_fastest_18 : decode cX8_fastest 18 = .ok (.invokevirtual 149, 3) := by decide +kernel
theorem dX8_fastest_21 : decode cX8_fastest 21 = .ok (.astore_n 2, 1) := by decide +kernel
theorem dX8_fastest_22 : decode cX8_fastest 22 = .ok (.aload_n 2, 1) := by decide +kernel
theorem dX8_fastest_23 : decode cX8_fastest 23 = .ok (.getfield 162, 3) := by decide +kernel
theorem dX8_fastest_26 : decode cX8_fastest 26 = .ok (.ifCond .eq 6, 3) := by decide +kernel
theorem dX8_fastest_29 : decode cX8_fastest 29 = .ok (.bipush (-2), 2) := by decide +kernel
theorem dX8_fastest_31 : decode cX8_fastest 31 = .ok (.ireturn, 1) := by decide +kernel
theorem dX8_fastest_32 : decode cX8_fastest 32 = .ok (.bipush (-4), 2) := by decide +kernel
theorem dX8_fastest_34 : decode cX8_fastest 34 = .ok (.istore_n 3, 1) := by decide +kernel
theorem dX8_fastest_35 : decode cX8_fastest 35 = .ok (.ldc 224, 2) := by decide +kernel
theorem dX8_fastest_37 : decode cX8_fastest 37 = .ok (.istore 4, 2) := by decide +kernel
theorem dX8_fastest_39 : decode cX8_fastest 39 = .ok (.iconst 0, 1) := by decide +kernel
theorem dX8_fastest_40 : decode cX8_fastest 40 = .ok (.istore 5, 2) := by decide +kernel
theorem dX8_fastest_42 : decode cX8_fastest 42 = .ok (.iload 5, 2) := by decide +kernel
theorem dX8_fastest_44 : decode cX8_fastest 44 = .ok (.aload_n 0, 1) := by decide +kernel
theorem dX8_fastest_45 : decode cX8_fastest 45 = .ok (.getfield 26, 3) := by decide +kernel
theorem dX8_fastest_48 : decode cX8_fastest 48 = .ok (.getfield 225, 3) := by decide +kernel
theorem dX8_fastest_51 : decode cX8_fastest 51 = .ok (.if_icmp .ge 43, 3) := by decide +kernel
theorem dX8_fastest_54 : decode cX8_fastest 54 = .ok (.aload_n 0, 1) := by decide +kernel
theorem dX8_fastest_55 : decode cX8_fastest 55 = .ok (.aload_n 0, 1) := by decide +kernel
theorem dX8_fastest_56 : decode cX8_fastest 56 = .ok (.getfield 33, 3) := by decide +kernel
theorem dX8_fastest_59 : decode cX8_fastest 59 = .ok (.aload_n 2, 1) := by decide +kernel
theorem dX8_fastest_60 : decode cX8_fastest 60 = .ok (.iload 5, 2) := by decide +kernel
theorem dX8_fastest_62 : decode cX8_fastest 62 = .ok (.invokevirtual 228, 3) := by decide +kernel
theorem dX8_fastest_65 : decode cX8_fastest 65 = .ok (.istore 6, 2) := by decide +kernel
theorem dX8_fastest_67 : decode cX8_fastest 67 = .ok (.iload 6, 2) := by decide +kernel
theorem dX8_fastest_69 : decode cX8_fastest 69 = .ok (.bipush (-4), 2) := by decide +kernel
theorem dX8_fastest_71 : decode cX8_fastest 71 = .ok (.if_icmp .eq 17, 3) := by decide +kernel
theorem dX8_fastest_74 : decode cX8_fastest 74 = .ok (.iload 6, 2) := by decide +kernel
theorem dX8_fastest_76 : decode cX8_fastest 76 = .ok (.iload 4, 2) := by decide +kernel
theorem dX8_fastest_78 : decode cX8_fastest 78 = .ok (.if_icmp .ge 10, 3) := by decide +kernel
theorem dX8_fastest_81 : decode cX8_fastest 81 = .ok (.iload 6, 2) := by decide +kernel
theorem dX8_fastest_83 : decode cX8_fastest 83 = .ok (.istore 4, 2) := by decide +kernel
theorem dX8_fastest_85 : decode cX8_fastest 85 = .ok (.iload 5, 2) := by decide +kernel
theorem dX8_fastest_87 : decode cX8_fastest 87 = .ok (.istore_n 3, 1) := by decide +kernel
theorem dX8_fastest_88 : decode cX8_fastest 88 = .ok (.iinc 5 1, 3) := by decide +kernel
theorem dX8_fastest_91 : decode cX8_fastest 91 = .ok (.goto (-49), 3) := by decide +kernel
theorem dX8_fastest_94 : decode cX8_fastest 94 = .ok (.iload_n 3, 1) := by decide +kernel
theorem dX8_fastest_95 : decode cX8_fastest 95 = .ok (.ireturn, 1) := by decide +kernel
theorem dX8_tune_0 : decode cX8_tune 0 = .ok (.aload_n 0, 1) := by decide +kernel
theorem dX8_tune_1 : decode cX8_tune 1 = .ok (.getfield 26, 3) := by decide +kernel
theorem dX8_tune_4 : decode cX8_tune 4 = .ok (.iload_n 1, 1) := by decide +kernel
theorem dX8_tune_5 : decode cX8_tune 5 = .ok (.invokevirtual 146, 3) := by decide +kernel
theorem dX8_tune_8 : decode cX8_tune 8 = .ok (.ifCond .ne 5, 3) := by decide +kernel
theorem dX8_tune_11 : decode cX8_tune 11 = .ok (.iconst (-1), 1) := by decide +kernel
theorem dX8_tune_12 : decode cX8_tune 12 = .ok (.ireturn, 1) := by decide +kernel
theorem dX8_tune_13 : decode cX8_tune 13 = .ok (.aload_n 0, 1) := by decide +kernel
theorem dX8_tune_14 : decode cX8_tune 14 = .ok (.getfield 33, 3) := by decide +kernel
theorem dX8_tune_17 : decode cX8_tune 17 = .ok (.iload_n 1, 1) := by decide +kernel
theorem dX8_tune_18 : decode cX8_tune 18 = .ok (.invokevirtual 149, 3) := by decide +kernel
theorem dX8_tune_21 : decode cX8_tune 21 = .ok (.astore_n 2, 1) := by decide +kernel
theorem dX8_tune_22 : decode cX8_tune 22 = .ok (.aload_n 2, 1) := by decide +kernel
theorem dX8_tune_23 : decode cX8_tune 23 = .ok (.getfield 162, 3) := by decide +kernel
theorem dX8_tune_26 : decode cX8_tune 26 = .ok (.ifCond .eq 6, 3) := by decide +kernel
theorem dX8_tune_29 : decode cX8_tune 29 = .ok (.bipush (-2), 2) := by decide +kernel
theorem dX8_tune_31 : decode cX8_tune 31 = .ok (.ireturn, 1) := by decide +kernel
theorem dX8_tune_32 : decode cX8_tune 32 = .ok (.aload_n 0, 1) := by decide +kernel
theorem dX8_tune_33 : decode cX8_tune 33 = .ok (.aload_n 0, 1) := by decide +kernel
theorem dX8_tune_34 : decode cX8_tune 34 = .ok (.getfield 33, 3) := by decide +kernel
theorem dX8_tune_37 : decode cX8_tune 37 = .ok (.aload_n 2, 1) := by decide +kernel
theorem dX8_tune_38 : decode cX8_tune 38 = .ok (.aload_n 2, 1) := by decide +kernel
theorem dX8_tune_39 : decode cX8_tune 39 = .ok (.getfield 159, 3) := by decide +kernel
theorem dX8_tune_42 : decode cX8_tune 42 = .ok (.invokevirtual 228, 3) := by decide +kernel
theorem dX8_tune_45 : decode cX8_tune 45 = .ok (.istore_n 3, 1) := by decide +kernel
theorem dX8_tune_46 : decode cX8_tune 46 = .ok (.iload_n 3, 1) := by decide +kernel
theorem dX8_tune_47 : decode cX8_tune 47 = .ok (.bipush (-4), 2) := by decide +kernel
theorem dX8_tune_49 : decode cX8_tune 49 = .ok (.if_icmp .ne 8, 3) := by decide +kernel
theorem dX8_tune_52 : decode cX8_tune 52 = .ok (.ldc 224, 2) := by decide +kernel
theorem dX8_tune_54 : decode cX8_tune 54 = .ok (.goto 4, 3) := by decide +kernel
theorem dX8_tune_57 : decode cX8_tune 57 = .ok (.iload_n 3, 1) := by decide +kernel
theorem dX8_tune_58 : decode cX8_tune 58 = .ok (.istore 4, 2) := by decide +kernel
theorem dX8_tune_60 : decode cX8_tune 60 = .ok (.bipush (-4), 2) := by decide +kernel
theorem dX8_tune_62 : decode cX8_tune 62 = .ok (.istore 5, 2) := by decide +kernel
theorem dX8_tune_64 : decode cX8_tune 64 = .ok (.aload_n 0, 1) := by decide +kernel
theorem dX8_tune_65 : decode cX8_tune 65 = .ok (.getfield 59, 3) := by decide +kernel
theorem dX8_tune_68 : decode cX8_tune 68 = .ok (.aload_n 0, 1) := by decide +kernel
theorem dX8_tune_69 : decode cX8_tune 69 = .ok (.getfield 33, 3) := by decide +kernel
theorem dX8_tune_72 : decode cX8_tune 72 = .ok (.invokevirtual 232, 3) := by decide +kernel
theorem dX8_tune_75 : decode cX8_tune 75 = .ok (.iconst 0, 1) := by decide +kernel
theorem dX8_tune_76 : decode cX8_tune 76 = .ok (.istore 6, 2) := by decide +kernel
theorem dX8_tune_78 : decode cX8_tune 78 = .ok (.iload 6, 2) := by decide +kernel
theorem dX8_tune_80 : decode cX8_tune 80 = .ok (.aload_n 0, 1) := by decide +kernel
theorem dX8_tune_81 : decode cX8_tune 81 = .ok (.getfield 26, 3) := by decide +kernel
theorem dX8_tune_84 : decode cX8_tune 84 = .ok (.getfield 113, 3) := by decide +kernel
theorem dX8_tune_87 : decode cX8_tune 87 = .ok (.if_icmp .ge 116, 3) := by decide +kernel
theorem dX8_tune_90 : decode cX8_tune 90 = .ok (.aload_n 0, 1) := by decide +kernel
theorem dX8_tune_91 : decode cX8_tune 91 = .ok (.getfield 33, 3) := by decide +kernel
theorem dX8_tune_94 : decode cX8_tune 94 = .ok (.aload_n 0, 1) := by decide +kernel
theorem dX8_tune_95 : decode cX8_tune 95 = .ok (.getfield 26, 3) := by decide +kernel
theorem dX8_tune_98 : decode cX8_tune 98 = .ok (.aload_n 2, 1) := by decide +kernel
theorem dX8_tune_99 : decode cX8_tune 99 = .ok (.getfield 159, 3) := by decide +kernel
theorem dX8_tune_102 : decode cX8_tune 102 = .ok (.iload 6, 2) := by decide +kernel
theorem dX8_tune_104 : decode cX8_tune 104 = .ok (.invokevirtual 129, 3) := by decide +kernel
theorem dX8_tune_107 : decode cX8_tune 107 = .ok (.istore 7, 2) := by decide +kernel
theorem dX8_tune_109 : decode cX8_tune 109 = .ok (.aload_n 0, 1) := by decide +kernel
theorem dX8_tune_110 : decode cX8_tune 110 = .ok (.getfield 59, 3) := by decide +kernel
theorem dX8_tune_113 : decode cX8_tune 113 = .ok (.aload_n 2, 1) := by decide +kernel
theorem dX8_tune_114 : decode cX8_tune 114 = .ok (.getfield 159, 3) := by decide +kernel
theorem dX8_tune_117 : decode cX8_tune 117 = .ok (.iload 6, 2) := by decide +kernel
theorem dX8_tune_119 : decode cX8_tune 119 = .ok (.iconst (-1), 1) := by decide +kernel
theorem dX8_tune_120 : decode cX8_tune 120 = .ok (.invokevirtual 198, 3) := by decide +kernel
theorem dX8_tune_123 : decode cX8_tune 123 = .ok (.iload 7, 2) := by decide +kernel
theorem dX8_tune_125 : decode cX8_tune 125 = .ok (.aload_n 0, 1) := by decide +kernel
theorem dX8_tune_126 : decode cX8_tune 126 = .ok (.getfield 26, 3) := by decide +kernel
theorem dX8_tune_129 : decode cX8_tune 129 = .ok (.getfield 119, 3) := by decide +kernel
theorem dX8_tune_132 : decode cX8_tune 132 = .ok (.iload 6, 2) := by decide +kernel
theorem dX8_tune_134 : decode cX8_tune 134 = .ok (.invokevirtual 122, 3) := by decide +kernel
theorem dX8_tune_137 : decode cX8_tune 137 = .ok (.if_icmp .ne 8, 3) := by decide +kernel
theorem dX8_tune_140 : decode cX8_tune 140 = .ok (.bipush (-4), 2) := by decide +kernel
theorem dX8_tune_142 : decode cX8_tune 142 = .ok (.goto 16, 3) := by decide +kernel
theorem dX8_tune_145 : decode cX8_tune 145 = .ok (.aload_n 0, 1) := by decide +kernel
theorem dX8_tune_146 : decode cX8_tune 146 = .ok (.aload_n 0, 1) := by decide +kernel
theorem dX8_tune_147 : decode cX8_tune 147 = .ok (.getfield 59, 3) := by decide +kernel
theorem dX8_tune_150 : decode cX8_tune 150 = .ok (.aload_n 2, 1) := by decide +kernel
theorem dX8_tune_151 : decode cX8_tune 151 = .ok (.aload_n 2, 1) := by decide +kernel
theorem dX8_tune_152 : decode cX8_tune 152 = .ok (.getfield 159, 3) := by decide +kernel
theorem dX8_tune_155 : decode cX8_tune 155 = .ok (.invokevirtual 228, 3) := by decide +kernel
theorem dX8_tune_158 : decode cX8_tune 158 = .ok (.istore 8, 2) := by decide +kernel
theorem dX8_tune_160 : decode cX8_tune 160 = .ok (.aload_n 0, 1) := by decide +kernel
theorem dX8_tune_161 : decode cX8_tune 161 = .ok (.getfield 59, 3) := by decide +kernel
theorem dX8_tune_164 : decode cX8_tune 164 = .ok (.aload_n 2, 1) := by decide +kernel
theorem dX8_tune_165 : decode cX8_tune 165 = .ok (.getfield 159, 3) := by decide +kernel
theorem dX8_tune_168 : decode cX8_tune 168 = .ok (.iload 6, 2) := by decide +kernel
theorem dX8_tune_170 : decode cX8_tune 170 = .ok (.iload 7, 2) := by decide +kernel
theorem dX8_tune_172 : decode cX8_tune 172 = .ok (.invokevirtual 198, 3) := by decide +kernel
theorem dX8_tune_175 : decode cX8_tune 175 = .ok (.iload 8, 2) := by decide +kernel
theorem dX8_tune_177 : decode cX8_tune 177 = .ok (.bipush (-4), 2) := by decide +kernel
theorem dX8_tune_179 : decode cX8_tune 179 = .ok (.if_icmp .eq 18, 3) := by decide +kernel
theorem dX8_tune_182 : decode cX8_tune 182 = .ok (.iload 8, 2) := by decide +kernel
theorem dX8_tune_184 : decode cX8_tune 184 = .ok (.iload 4, 2) := by decide +kernel
theorem dX8_tune_186 : decode cX8_tune 186 = .ok (.if_icmp .ge 11, 3) := by decide +kernel
theorem dX8_tune_189 : decode cX8_tune 189 = .ok (.iload 8, 2) := by decide +kernel
theorem dX8_tune_191 : decode cX8_tune 191 = .ok (.istore 4, 2) := by decide +kernel
theorem dX8_tune_193 : decode cX8_tune 193 = .ok (.iload 6, 2) := by decide +kernel
theorem dX8_tune_195 : decode cX8_tune 195 = .ok (.istore 5, 2) := by decide +kernel
theorem dX8_tune_197 : decode cX8_tune 197 = .ok (.iinc 6 1, 3) := by decide +kernel
theorem dX8_tune_200 : decode cX8_tune 200 = .ok (.goto (-122), 3) := by decide +kernel
theorem dX8_tune_203 : decode cX8_tune 203 = .ok (.iload 5, 2) := by decide +kernel
theorem dX8_tune_205 : decode cX8_tune 205 = .ok (.ireturn, 1) := by decide +kernel
theorem dX8_meet_0 : decode cX8_meet 0 = .ok (.aload_n 0, 1) := by decide +kernel
theorem dX8_meet_1 : decode cX8_meet 1 = .ok (.getfield 26, 3) := by decide +kernel
theorem dX8_meet_4 : decode cX8_meet 4 = .ok (.iload_n 1, 1) := by decide +kernel
theorem dX8_meet_5 : decode cX8_meet 5 = .ok (.invokevirtual 146, 3) := by decide +kernel
theorem dX8_meet_8 : decode cX8_meet 8 = .ok (.ifCond .eq 19, 3) := by decide +kernel
theorem dX8_meet_11 : decode cX8_meet 11 = .ok (.aload_n 0, 1) := by decide +kernel
theorem dX8_meet_12 : decode cX8_meet 12 = .ok (.getfield 26, 3) := by decide +kernel
theorem dX8_meet_15 : decode cX8_meet 15 = .ok (.iload_n 2, 1) := by decide +kernel
theorem dX8_meet_16 : decode cX8_meet 16 = .ok (.invokevirtual 146, 3) := by decide +kernel
theorem dX8_meet_19 : decode cX8_meet 19 = .ok (.ifCond .eq 8, 3) := by decide +kernel
theorem dX8_meet_22 : decode cX8_meet 22 = .ok (.iload_n 1, 1) := by decide +kernel
theorem dX8_meet_23 : decode cX8_meet 23 = .ok (.iload_n 2, 1) := by decide +kernel
theorem dX8_meet_24 : decode cX8_meet 24 = .ok (.if_icmp .ne 5, 3) := by decide +kernel
theorem dX8_meet_27 : decode cX8_meet 27 = .ok (.iconst (-1), 1) := by decide +kernel
theorem dX8_meet_28 : decode cX8_meet 28 = .ok (.ireturn, 1) := by decide +kernel
theorem dX8_meet_29 : decode cX8_meet 29 = .ok (.aload_n 0, 1) := by decide +kernel
theorem dX8_meet_30 : decode cX8_meet 30 = .ok (.getfield 65, 3) := by decide +kernel
theorem dX8_meet_33 : decode cX8_meet 33 = .ok (.aload_n 0, 1) := by decide +kernel
theorem dX8_meet_34 : decode cX8_meet 34 = .ok (.getfield 33, 3) := by decide +kernel
theorem dX8_meet_37 : decode cX8_meet 37 = .ok (.iload_n 1, 1) := by decide +kernel
theorem dX8_meet_38 : decode cX8_meet 38 = .ok (.invokevirtual 149, 3) := by decide +kernel
theorem dX8_meet_41 : decode cX8_meet 41 = .ok (.invokevirtual 212, 3) := by decide +kernel
theorem dX8_meet_44 : decode cX8_meet 44 = .ok (.aload_n 0, 1) := by decide +kernel
theorem dX8_meet_45 : decode cX8_meet 45 = .ok (.getfield 69, 3) := by decide +kernel
theorem dX8_meet_48 : decode cX8_meet 48 = .ok (.aload_n 0, 1) := by decide +kernel
theorem dX8_meet_49 : decode cX8_meet 49 = .ok (.getfield 33, 3) := by decide +kernel
theorem dX8_meet_52 : decode cX8_meet 52 = .ok (.iload_n 2, 1) := by decide +kernel
theorem dX8_meet_53 : decode cX8_meet 53 = .ok (.invokevirtual 149, 3) := by decide +kernel
theorem dX8_meet_56 : decode cX8_meet 56 = .ok (.invokevirtual 212, 3) := by decide +kernel
theorem dX8_meet_59 : decode cX8_meet 59 = .ok (.aload_n 0, 1) := by decide +kernel
theorem dX8_meet_60 : decode cX8_meet 60 = .ok (.getfield 75, 3) := by decide +kernel
theorem dX8_meet_63 : decode cX8_meet 63 = .ok (.aload_n 0, 1) := by decide +kernel
theorem dX8_meet_64 : decode cX8_meet 64 = .ok (.getfield 26, 3) := by decide +kernel
theorem dX8_meet_67 : decode cX8_meet 67 = .ok (.aload_n 0, 1) := by decide +kernel
theorem dX8_meet_68 : decode cX8_meet 68 = .ok (.getfield 33, 3) := by decide +kernel
theorem dX8_meet_71 : decode cX8_meet 71 = .ok (.aload_n 0, 1) := by decide +kernel
theorem dX8_meet_72 : decode cX8_meet 72 = .ok (.getfield 65, 3) := by decide +kernel
theorem dX8_meet_75 : decode cX8_meet 75 = .ok (.getfield 159, 3) := by decide +kernel
theorem dX8_meet_78 : decode cX8_meet 78 = .ok (.aload_n 0, 1) := by decide +kernel
theorem dX8_meet_79 : decode cX8_meet 79 = .ok (.getfield 65, 3) := by decide +kernel
theorem dX8_meet_82 : decode cX8_meet 82 = .ok (.getfield 156, 3) := by decide +kernel
theorem dX8_meet_85 : decode cX8_meet 85 = .ok (.invokevirtual 174, 3) := by decide +kernel
theorem dX8_meet_88 : decode cX8_meet 88 = .ok (.aload_n 0, 1) := by decide +kernel
theorem dX8_meet_89 : decode cX8_meet 89 = .ok (.getfield 79, 3) := by decide +kernel
theorem dX8_meet_92 : decode cX8_meet 92 = .ok (.aload_n 0, 1) := by decide +kernel
theorem dX8_meet_93 : decode cX8_meet 93 = .ok (.getfield 26, 3) := by decide +kernel
theorem dX8_meet_96 : decode cX8_meet 96 = .ok (.aload_n 0, 1) := by decide +kernel
theorem dX8_meet_97 : decode cX8_meet 97 = .ok (.getfield 33, 3) := by decide +kernel
theorem dX8_meet_100 : decode cX8_meet 100 = .ok (.aload_n 0, 1) := by decide +kernel
theorem dX8_meet_101 : decode cX8_meet 101 = .ok (.getfield 69, 3) := by decide +kernel
theorem dX8_meet_104 : decode cX8_meet 104 = .ok (.getfield 159, 3) := by decide +kernel
theorem dX8_meet_107 : decode cX8_meet 107 = .ok (.aload_n 0, 1) := by decide +kernel
theorem dX8_meet_108 : decode cX8_meet 108 = .ok (.getfield 69, 3) := by decide +kernel
theorem dX8_meet_111 : decode cX8_meet 111 = .ok (.getfield 156, 3) := by decide +kernel
theorem dX8_meet_114 : decode cX8_meet 114 = .ok (.invokevirtual 174, 3) := by decide +kernel
theorem dX8_meet_117 : decode cX8_meet 117 = .ok (.iconst 0, 1) := by decide +kernel
theorem dX8_meet_118 : decode cX8_meet 118 = .ok (.istore_n 3, 1) := by decide +kernel
theorem dX8_meet_119 : decode cX8_meet 119 = .ok (.iload_n 3, 1) := by decide +kernel
theorem dX8_meet_120 : decode cX8_meet 120 = .ok (.bipush 60, 2) := by decide +kernel
theorem dX8_meet_122 : decode cX8_meet 122 = .ok (.if_icmp .gt 63, 3) := by decide +kernel
theorem dX8_meet_125 : decode cX8_meet 125 = .ok (.aload_n 0, 1) := by decide +kernel
theorem dX8_meet_126 : decode cX8_meet 126 = .ok (.getfield 65, 3) := by decide +kernel
theorem dX8_meet_129 : decode cX8_meet 129 = .ok (.aload_n 0, 1) := by decide +kernel
theorem dX8_meet_130 : decode cX8_meet 130 = .ok (.getfield 69, 3) := by decide +kernel
theorem dX8_meet_133 : decode cX8_meet 133 = .ok (.invokevirtual 234, 3) := by decide +kernel
theorem dX8_meet_136 : decode cX8_meet 136 = .ok (.ifCond .eq 5, 3) := by decide +kernel
theorem dX8_meet_139 : decode cX8_meet 139 = .ok (.iload_n 3, 1) := by decide +kernel
theorem dX8_meet_140 : decode cX8_meet 140 = .ok (.ireturn, 1) := by decide +kernel
theorem dX8_meet_141 : decode cX8_meet 141 = .ok (.aload_n 0, 1) := by decide +kernel
theorem dX8_meet_142 : decode cX8_meet 142 = .ok (.aload_n 0, 1) := by decide +kernel
theorem dX8_meet_143 : decode cX8_meet 143 = .ok (.getfield 65, 3) := by decide +kernel
theorem dX8_meet_146 : decode cX8_meet 146 = .ok (.aload_n 0, 1) := by decide +kernel
theorem dX8_meet_147 : decode cX8_meet 147 = .ok (.getfield 75, 3) := by decide +kernel
theorem dX8_meet_150 : decode cX8_meet 150 = .ok (.aload_n 0, 1) := by decide +kernel
theorem dX8_meet_151 : decode cX8_meet 151 = .ok (.getfield 33, 3) := by decide +kernel
theorem dX8_meet_154 : decode cX8_meet 154 = .ok (.getfield 136, 3) := by decide +kernel
theorem dX8_meet_157 : decode cX8_meet 157 = .ok (.invokevirtual 238, 3) := by decide +kernel
theorem dX8_meet_160 : decode cX8_meet 160 = .ok (.aload_n 0, 1) := by decide +kernel
theorem dX8_meet_161 : decode cX8_meet 161 = .ok (.aload_n 0, 1) := by decide +kernel
theorem dX8_meet_162 : decode cX8_meet 162 = .ok (.getfield 69, 3) := by decide +kernel
theorem dX8_meet_165 : decode cX8_meet 165 = .ok (.aload_n 0, 1) := by decide +kernel
theorem dX8_meet_166 : decode cX8_meet 166 = .ok (.getfield 79, 3) := by decide +kernel
theorem dX8_meet_169 : decode cX8_meet 169 = .ok (.aload_n 0, 1) := by decide +kernel
theorem dX8_meet_170 : decode cX8_meet 170 = .ok (.getfield 33, 3) := by decide +kernel
theorem dX8_meet_173 : decode cX8_meet 173 = .ok (.getfield 136, 3) := by decide +kernel
theorem dX8_meet_176 : decode cX8_meet 176 = .ok (.invokevirtual 238, 3) := by decide +kernel
theorem dX8_meet_179 : decode cX8_meet 179 = .ok (.iinc 3 1, 3) := by decide +kernel
theorem dX8_meet_182 : decode cX8_meet 182 = .ok (.goto (-63), 3) := by decide +kernel
theorem dX8_meet_185 : decode cX8_meet 185 = .ok (.bipush (-4), 2) := by decide +kernel
theorem dX8_meet_187 : decode cX8_meet 187 = .ok (.ireturn, 1) := by decide +kernel
theorem dX8_clash_0 : decode cX8_clash 0 = .ok (.aload_n 0, 1) := by decide +kernel
theorem dX8_clash_1 : decode cX8_clash 1 = .ok (.getfield 26, 3) := by decide +kernel
theorem dX8_clash_4 : decode cX8_clash 4 = .ok (.iload_n 1, 1) := by decide +kernel
theorem dX8_clash_5 : decode cX8_clash 5 = .ok (.invokevirtual 126, 3) := by decide +kernel
theorem dX8_clash_8 : decode cX8_clash 8 = .ok (.ifCond .eq 28, 3) := by decide +kernel
theorem dX8_clash_11 : decode cX8_clash 11 = .ok (.aload_n 0, 1) := by decide +kernel
theorem dX8_clash_12 : decode cX8_clash 12 = .ok (.getfield 26, 3) := by decide +kernel
theorem dX8_clash_15 : decode cX8_clash 15 = .ok (.iload_n 2, 1) := by decide +kernel
theorem dX8_clash_16 : decode cX8_clash 16 = .ok (.invokevirtual 126, 3) := by decide +kernel
theorem dX8_clash_19 : decode cX8_clash 19 = .ok (.ifCond .eq 17, 3) := by decide +kernel
theorem dX8_clash_22 : decode cX8_clash 22 = .ok (.iload_n 1, 1) := by decide +kernel
theorem dX8_clash_23 : decode cX8_clash 23 = .ok (.iload_n 2, 1) := by decide +kernel
theorem dX8_clash_24 : decode cX8_clash 24 = .ok (.if_icmp .eq 12, 3) := by decide +kernel
theorem dX8_clash_27 : decode cX8_clash 27 = .ok (.iload_n 3, 1) := by decide +kernel
theorem dX8_clash_28 : decode cX8_clash 28 = .ok (.iconst 0, 1) := by decide +kernel
theorem dX8_clash_29 : decode cX8_clash 29 = .ok (.iconst 1, 1) := by decide +kernel
theorem dX8_clash_30 : decode cX8_clash 30 = .ok (.invokestatic 105, 3) := by decide +kernel
theorem dX8_clash_33 : decode cX8_clash 33 = .ok (.ifCond .ne 5, 3) := by decide +kernel
theorem dX8_clash_36 : decode cX8_clash 36 = .ok (.iconst (-1), 1) := by decide +kernel
theorem dX8_clash_37 : decode cX8_clash 37 = .ok (.ireturn, 1) := by decide +kernel
theorem dX8_clash_38 : decode cX8_clash 38 = .ok (.iconst 0, 1) := by decide +kernel
theorem dX8_clash_39 : decode cX8_clash 39 = .ok (.istore 4, 2) := by decide +kernel
theorem dX8_clash_41 : decode cX8_clash 41 = .ok (.bipush (-4), 2) := by decide +kernel
theorem dX8_clash_43 : decode cX8_clash 43 = .ok (.istore 5, 2) := by decide +kernel
theorem dX8_clash_45 : decode cX8_clash 45 = .ok (.iconst 0, 1) := by decide +kernel
theorem dX8_clash_46 : decode cX8_clash 46 = .ok (.istore 6, 2) := by decide +kernel
theorem dX8_clash_48 : decode cX8_clash 48 = .ok (.iload 6, 2) := by decide +kernel
theorem dX8_clash_50 : decode cX8_clash 50 = .ok (.aload_n 0, 1) := by decide +kernel
theorem dX8_clash_51 : decode cX8_clash 51 = .ok (.getfield 26, 3) := by decide +kernel
theorem dX8_clash_54 : decode cX8_clash 54 = .ok (.getfield 113, 3) := by decide +kernel
theorem dX8_clash_57 : decode cX8_clash 57 = .ok (.if_icmp .ge 59, 3) := by decide +kernel
theorem dX8_clash_60 : decode cX8_clash 60 = .ok (.aload_n 0, 1) := by decide +kernel
theorem dX8_clash_61 : decode cX8_clash 61 = .ok (.getfield 33, 3) := by decide +kernel
theorem dX8_clash_64 : decode cX8_clash 64 = .ok (.aload_n 0, 1) := by decide +kernel
theorem dX8_clash_65 : decode cX8_clash 65 = .ok (.getfield 26, 3) := by decide +kernel
theorem dX8_clash_68 : decode cX8_clash 68 = .ok (.iload_n 1, 1) := by decide +kernel
theorem dX8_clash_69 : decode cX8_clash 69 = .ok (.iload 6, 2) := by decide +kernel
theorem dX8_clash_71 : decode cX8_clash 71 = .ok (.invokevirtual 129, 3) := by decide +kernel
theorem dX8_clash_74 : decode cX8_clash 74 = .ok (.aload_n 0, 1) := by decide +kernel
theorem dX8_clash_75 : decode cX8_clash 75 = .ok (.getfield 33, 3) := by decide +kernel
theorem dX8_clash_78 : decode cX8_clash 78 = .ok (.aload_n 0, 1) := by decide +kernel
theorem dX8_clash_79 : decode cX8_clash 79 = .ok (.getfield 26, 3) := by decide +kernel
theorem dX8_clash_82 : decode cX8_clash 82 = .ok (.iload_n 2, 1) := by decide +kernel
theorem dX8_clash_83 : decode cX8_clash 83 = .ok (.iload 6, 2) := by decide +kernel
theorem dX8_clash_85 : decode cX8_clash 85 = .ok (.invokevirtual 129, 3) := by decide +kernel
theorem dX8_clash_88 : decode cX8_clash 88 = .ok (.if_icmp .eq 22, 3) := by decide +kernel
theorem dX8_clash_91 : decode cX8_clash 91 = .ok (.iinc 4 1, 3) := by decide +kernel
theorem dX8_clash_94 : decode cX8_clash 94 = .ok (.iload 5, 2) := by decide +kernel
theorem dX8_clash_96 : decode cX8_clash 96 = .ok (.bipush (-4), 2) := by decide +kernel
theorem dX8_clash_98 : decode cX8_clash 98 = .ok (.if_icmp .ne 8, 3) := by decide +kernel
theorem dX8_clash_101 : decode cX8_clash 101 = .ok (.iload 6, 2) := by decide +kernel
theorem dX8_clash_103 : decode cX8_clash 103 = .ok (.goto 5, 3) := by decide +kernel
theorem dX8_clash_106 : decode cX8_clash 106 = .ok (.iload 5, 2) := by decide +kernel
theorem dX8_clash_108 : decode cX8_clash 108 = .ok (.istore 5, 2) := by decide +kernel
theorem dX8_clash_110 : decode cX8_clash 110 = .ok (.iinc 6 1, 3) := by decide +kernel
theorem dX8_clash_113 : decode cX8_clash 113 = .ok (.goto (-65), 3) := by decide +kernel
theorem dX8_clash_116 : decode cX8_clash 116 = .ok (.iload_n 3, 1) := by decide +kernel
theorem dX8_clash_117 : decode cX8_clash 117 = .ok (.ifCond .ne 8, 3) := by decide +kernel
theorem dX8_clash_120 : decode cX8_clash 120 = .ok (.iload 4, 2) := by decide +kernel
theorem dX8_clash_122 : decode cX8_clash 122 = .ok (.goto 5, 3) := by decide +kernel
theorem dX8_clash_125 : decode cX8_clash 125 = .ok (.iload 5, 2) := by decide +kernel
theorem dX8_clash_127 : decode cX8_clash 127 = .ok (.ireturn, 1) := by decide +kernel
theorem dX8_right_0 : decode cX8_right 0 = .ok (.aload_n 0, 1) := by decide +kernel
theorem dX8_right_1 : decode cX8_right 1 = .ok (.getfield 26, 3) := by decide +kernel
theorem dX8_right_4 : decode cX8_right 4 = .ok (.iload_n 1, 1) := by decide +kernel
theorem dX8_right_5 : decode cX8_right 5 = .ok (.invokevirtual 116, 3) := by decide +kernel
theorem dX8_right_8 : decode cX8_right 8 = .ok (.ifCond .eq 14, 3) := by decide +kernel
theorem dX8_right_11 : decode cX8_right 11 = .ok (.aload_n 0, 1) := by decide +kernel
theorem dX8_right_12 : decode cX8_right 12 = .ok (.getfield 26, 3) := by decide +kernel
theorem dX8_right_15 : decode cX8_right 15 = .ok (.iload_n 2, 1) := by decide +kernel
theorem dX8_right_16 : decode cX8_right 16 = .ok (.invokevirtual 116, 3) := by decide +kernel
theorem dX8_right_19 : decode cX8_right 19 = .ok (.ifCond .ne 5, 3) := by decide +kernel
theorem dX8_right_22 : decode cX8_right 22 = .ok (.iconst (-1), 1) := by decide +kernel
theorem dX8_right_23 : decode cX8_right 23 = .ok (.ireturn, 1) := by decide +kernel
theorem dX8_right_24 : decode cX8_right 24 = .ok (.aload_n 0, 1) := by decide +kernel
theorem dX8_right_25 : decode cX8_right 25 = .ok (.getfield 75, 3) := by decide +kernel
theorem dX8_right_28 : decode cX8_right 28 = .ok (.aload_n 0, 1) := by decide +kernel
theorem dX8_right_29 : decode cX8_right 29 = .ok (.getfield 26, 3) := by decide +kernel
theorem dX8_right_32 : decode cX8_right 32 = .ok (.aload_n 0, 1) := by decide +kernel
theorem dX8_right_33 : decode cX8_right 33 = .ok (.getfield 33, 3) := by decide +kernel
theorem dX8_right_36 : decode cX8_right 36 = .ok (.getfield 136, 3) := by decide +kernel
theorem dX8_right_39 : decode cX8_right 39 = .ok (.iload_n 2, 1) := by decide +kernel
theorem dX8_right_40 : decode cX8_right 40 = .ok (.invokevirtual 185, 3) := by decide +kernel
theorem dX8_right_43 : decode cX8_right 43 = .ok (.aload_n 0, 1) := by decide +kernel
theorem dX8_right_44 : decode cX8_right 44 = .ok (.getfield 75, 3) := by decide +kernel
theorem dX8_right_47 : decode cX8_right 47 = .ok (.iload_n 1, 1) := by decide +kernel
theorem dX8_right_48 : decode cX8_right 48 = .ok (.invokevirtual 178, 3) := by decide +kernel
theorem dX8_right_51 : decode cX8_right 51 = .ok (.istore_n 3, 1) := by decide +kernel
theorem dX8_right_52 : decode cX8_right 52 = .ok (.iconst 0, 1) := by decide +kernel
theorem dX8_right_53 : decode cX8_right 53 = .ok (.istore 4, 2) := by decide +kernel
theorem dX8_right_55 : decode cX8_right 55 = .ok (.iload_n 3, 1) := by decide +kernel
theorem dX8_right_56 : decode cX8_right 56 = .ok (.bipush (-4), 2) := by decide +kernel
theorem dX8_right_58 : decode cX8_right 58 = .ok (.if_icmp .ne 6, 3) := by decide +kernel
theorem dX8_right_61 : decode cX8_right 61 = .ok (.iload 4, 2) := by decide +kernel
theorem dX8_right_63 : decode cX8_right 63 = .ok (.ireturn, 1) := by decide +kernel
theorem dX8_right_64 : decode cX8_right 64 = .ok (.iconst 0, 1) := by decide +kernel
theorem dX8_right_65 : decode cX8_right 65 = .ok (.istore 5, 2) := by decide +kernel
theorem dX8_right_67 : decode cX8_right 67 = .ok (.iload 5, 2) := by decide +kernel
theorem dX8_right_69 : decode cX8_right 69 = .ok (.aload_n 0, 1) := by decide +kernel
theorem dX8_right_70 : decode cX8_right 70 = .ok (.getfield 26, 3) := by decide +kernel
theorem dX8_right_73 : decode cX8_right 73 = .ok (.getfield 225, 3) := by decide +kernel
theorem dX8_right_76 : decode cX8_right 76 = .ok (.if_icmp .ge 41, 3) := by decide +kernel
theorem dX8_right_79 : decode cX8_right 79 = .ok (.aload_n 0, 1) := by decide +kernel
theorem dX8_right_80 : decode cX8_right 80 = .ok (.iload 5, 2) := by decide +kernel
theorem dX8_right_82 : decode cX8_right 82 = .ok (.iload_n 1, 1) := by decide +kernel
theorem dX8_right_83 : decode cX8_right 83 = .ok (.iload_n 2, 1) := by decide +kernel
theorem dX8_right_84 : decode cX8_right 84 = .ok (.invokevirtual 220, 3) := by decide +kernel
theorem dX8_right_87 : decode cX8_right 87 = .ok (.istore 6, 2) := by decide +kernel
theorem dX8_right_89 : decode cX8_right 89 = .ok (.iload 6, 2) := by decide +kernel
theorem dX8_right_91 : decode cX8_right 91 = .ok (.bipush (-4), 2) := by decide +kernel
theorem dX8_right_93 : decode cX8_right 93 = .ok (.if_icmp .eq 18, 3) := by decide +kernel
theorem dX8_right_96 : decode cX8_right 96 = .ok (.iload 6, 2) := by decide +kernel
theorem dX8_right_98 : decode cX8_right 98 = .ok (.iload_n 3, 1) := by decide +kernel
theorem dX8_right_99 : decode cX8_right 99 = .ok (.if_icmp .gt 12, 3) := by decide +kernel
theorem dX8_right_102 : decode cX8_right 102 = .ok (.iload 4, 2) := by decide +kernel
theorem dX8_right_104 : decode cX8_right 104 = .ok (.iconst 1, 1) := by decide +kernel
theorem dX8_right_105 : decode cX8_right 105 = .ok (.iload 5, 2) := by decide +kernel
theorem dX8_right_107 : decode cX8_right 107 = .ok (.ishl, 1) := by decide +kernel
theorem dX8_right_108 : decode cX8_right 108 = .ok (.ior, 1) := by decide +kernel
theorem dX8_right_109 : decode cX8_right 109 = .ok (.istore 4, 2) := by decide +kernel
theorem dX8_right_111 : decode cX8_right 111 = .ok (.iinc 5 1, 3) := by decide +kernel
theorem dX8_right_114 : decode cX8_right 114 = .ok (.goto (-47), 3) := by decide +kernel
theorem dX8_right_117 : decode cX8_right 117 = .ok (.iload 4, 2) := by decide +kernel
theorem dX8_right_119 : decode cX8_right 119 = .ok (.ireturn, 1) := by decide +kernel
theorem dX8_hear_0 : decode cX8_hear 0 = .ok (.aload_n 0, 1) := by decide +kernel
theorem dX8_hear_1 : decode cX8_hear 1 = .ok (.getfield 26, 3) := by decide +kernel
theorem dX8_hear_4 : decode cX8_hear 4 = .ok (.iload_n 1, 1) := by decide +kernel
theorem dX8_hear_5 : decode cX8_hear 5 = .ok (.invokevirtual 116, 3) := by decide +kernel
theorem dX8_hear_8 : decode cX8_hear 8 = .ok (.ifCond .eq 12, 3) := by decide +kernel
theorem dX8_hear_11 : decode cX8_hear 11 = .ok (.iload_n 2, 1) := by decide +kernel
theorem dX8_hear_12 : decode cX8_hear 12 = .ok (.iconst 0, 1) := by decide +kernel
theorem dX8_hear_13 : decode cX8_hear 13 = .ok (.iconst 3, 1) := by decide +kernel
theorem dX8_hear_14 : decode cX8_hear 14 = .ok (.invokestatic 105, 3) := by decide +kernel
theorem dX8_hear_17 : decode cX8_hear 17 = .ok (.ifCond .ne 5, 3) := by decide +kernel
theorem dX8_hear_20 : decode cX8_hear 20 = .ok (.iconst (-1), 1) := by decide +kernel
theorem dX8_hear_21 : decode cX8_hear 21 = .ok (.ireturn, 1) := by decide +kernel
theorem dX8_hear_22 : decode cX8_hear 22 = .ok (.aload_n 0, 1) := by decide +kernel
theorem dX8_hear_23 : decode cX8_hear 23 = .ok (.getfield 242, 3) := by decide +kernel
theorem dX8_hear_26 : decode cX8_hear 26 = .ok (.bipush 8, 2) := by decide +kernel
theorem dX8_hear_28 : decode cX8_hear 28 = .ok (.if_icmp .lt 6, 3) := by decide +kernel
theorem dX8_hear_31 : decode cX8_hear 31 = .ok (.bipush (-3), 2) := by decide +kernel
theorem dX8_hear_33 : decode cX8_hear 33 = .ok (.ireturn, 1) := by decide +kernel
theorem dX8_hear_34 : decode cX8_hear 34 = .ok (.aload_n 0, 1) := by decide +kernel
theorem dX8_hear_35 : decode cX8_hear 35 = .ok (.getfield 52, 3) := by decide +kernel
theorem dX8_hear_38 : decode cX8_hear 38 = .ok (.aload_n 0, 1) := by decide +kernel
theorem dX8_hear_39 : decode cX8_hear 39 = .ok (.getfield 242, 3) := by decide +kernel
theorem dX8_hear_42 : decode cX8_hear 42 = .ok (.iload_n 1, 1) := by decide +kernel
theorem dX8_hear_43 : decode cX8_hear 43 = .ok (.invokevirtual 245, 3) := by decide +kernel
theorem dX8_hear_46 : decode cX8_hear 46 = .ok (.aload_n 0, 1) := by decide +kernel
theorem dX8_hear_47 : decode cX8_hear 47 = .ok (.getfield 56, 3) := by decide +kernel
theorem dX8_hear_50 : decode cX8_hear 50 = .ok (.aload_n 0, 1) := by decide +kernel
theorem dX8_hear_51 : decode cX8_hear 51 = .ok (.getfield 242, 3) := by decide +kernel
theorem dX8_hear_54 : decode cX8_hear 54 = .ok (.iload_n 2, 1) := by decide +kernel
theorem dX8_hear_55 : decode cX8_hear 55 = .ok (.invokevirtual 245, 3) := by decide +kernel
theorem dX8_hear_58 : decode cX8_hear 58 = .ok (.aload_n 0, 1) := by decide +kernel
theorem dX8_hear_59 : decode cX8_hear 59 = .ok (.dup, 1) := by decide +kernel
theorem dX8_hear_60 : decode cX8_hear 60 = .ok (.getfield 242, 3) := by decide +kernel
theorem dX8_hear_63 : decode cX8_hear 63 = .ok (.iconst 1, 1) := by decide +kernel
theorem dX8_hear_64 : decode cX8_hear 64 = .ok (.iadd, 1) := by decide +kernel
theorem dX8_hear_65 : decode cX8_hear 65 = .ok (.putfield 242, 3) := by decide +kernel
theorem dX8_hear_68 : decode cX8_hear 68 = .ok (.aload_n 0, 1) := by decide +kernel
theorem dX8_hear_69 : decode cX8_hear 69 = .ok (.getfield 242, 3) := by decide +kernel
theorem dX8_hear_72 : decode cX8_hear 72 = .ok (.ireturn, 1) := by decide +kernel
theorem dX8_forget_0 : decode cX8_forget 0 = .ok (.aload_n 0, 1) := by decide +kernel
theorem dX8_forget_1 : decode cX8_forget 1 = .ok (.getfield 242, 3) := by decide +kernel
theorem dX8_forget_4 : decode cX8_forget 4 = .ok (.istore_n 1, 1) := by decide +kernel
theorem dX8_forget_5 : decode cX8_forget 5 = .ok (.aload_n 0, 1) := by decide +kernel
theorem dX8_forget_6 : decode cX8_forget 6 = .ok (.iconst 0, 1) := by decide +kernel
theorem dX8_forget_7 : decode cX8_forget 7 = .ok (.putfield 242, 3) := by decide +kernel
theorem dX8_forget_10 : decode cX8_forget 10 = .ok (.iload_n 1, 1) := by decide +kernel
theorem dX8_forget_11 : decode cX8_forget 11 = .ok (.ireturn, 1) := by decide +kernel
theorem dX8_which_0 : decode cX8_which 0 = .ok (.iconst 0, 1) := by decide +kernel
theorem dX8_which_1 : decode cX8_which 1 = .ok (.istore_n 1, 1) := by decide +kernel
theorem dX8_which_2 : decode cX8_which 2 = .ok (.iconst 0, 1) := by decide +kernel
theorem dX8_which_3 : decode cX8_which 3 = .ok (.istore_n 2, 1) := by decide +kernel
theorem dX8_which_4 : decode cX8_which 4 = .ok (.iload_n 2, 1) := by decide +kernel
theorem dX8_which_5 : decode cX8_which 5 = .ok (.aload_n 0, 1) := by decide +kernel
theorem dX8_which_6 : decode cX8_which 6 = .ok (.getfield 26, 3) := by decide +kernel
theorem dX8_which_9 : decode cX8_which 9 = .ok (.getfield 225, 3) := by decide +kernel
theorem dX8_which_12 : decode cX8_which 12 = .ok (.if_icmp .ge 23, 3) := by decide +kernel
theorem dX8_which_15 : decode cX8_which 15 = .ok (.aload_n 0, 1) := by decide +kernel
theorem dX8_which_16 : decode cX8_which 16 = .ok (.iload_n 2, 1) := by decide +kernel
theorem dX8_which_17 : decode cX8_which 17 = .ok (.invokevirtual 249, 3) := by decide +kernel
theorem dX8_which_20 : decode cX8_which 20 = .ok (.ifCond .eq 9, 3) := by decide +kernel
theorem dX8_which_23 : decode cX8_which 23 = .ok (.iload_n 1, 1) := by decide +kernel
theorem dX8_which_24 : decode cX8_which 24 = .ok (.iconst 1, 1) := by decide +kernel
theorem dX8_which_25 : decode cX8_which 25 = .ok (.iload_n 2, 1) := by decide +kernel
theorem dX8_which_26 : decode cX8_which 26 = .ok (.ishl, 1) := by decide +kernel
theorem dX8_which_27 : decode cX8_which 27 = .ok (.ior, 1) := by decide +kernel
theorem dX8_which_28 : decode cX8_which 28 = .ok (.istore_n 1, 1) := by decide +kernel
theorem dX8_which_29 : decode cX8_which 29 = .ok (.iinc 2 1, 3) := by decide +kernel
theorem dX8_which_32 : decode cX8_which 32 = .ok (.goto (-28), 3) := by decide +kernel
theorem dX8_which_35 : decode cX8_which 35 = .ok (.iload_n 1, 1) := by decide +kernel
theorem dX8_which_36 : decode cX8_which 36 = .ok (.ireturn, 1) := by decide +kernel
theorem dX8_seen_0 : decode cX8_seen 0 = .ok (.aload_n 0, 1) := by decide +kernel
theorem dX8_seen_1 : decode cX8_seen 1 = .ok (.getfield 26, 3) := by decide +kernel
theorem dX8_seen_4 : decode cX8_seen 4 = .ok (.iload_n 1, 1) := by decide +kernel
theorem dX8_seen_5 : decode cX8_seen 5 = .ok (.invokevirtual 146, 3) := by decide +kernel
theorem dX8_seen_8 : decode cX8_seen 8 = .ok (.ifCond .eq 24, 3) := by decide +kernel
theorem dX8_seen_11 : decode cX8_seen 11 = .ok (.aload_n 0, 1) := by decide +kernel
theorem dX8_seen_12 : decode cX8_seen 12 = .ok (.getfield 26, 3) := by decide +kernel
theorem dX8_seen_15 : decode cX8_seen 15 = .ok (.iload_n 2, 1) := by decide +kernel
theorem dX8_seen_16 : decode cX8_seen 16 = .ok (.invokevirtual 116, 3) := by decide +kernel
theorem dX8_seen_19 : decode cX8_seen 19 = .ok (.ifCond .eq 13, 3) := by decide +kernel
theorem dX8_seen_22 : decode cX8_seen 22 = .ok (.iload_n 3, 1) := by decide +kernel
theorem dX8_seen_23 : decode cX8_seen 23 = .ok (.iconst 0, 1) := by decide +kernel
theorem dX8_seen_24 : decode cX8_seen 24 = .ok (.bipush 30, 2) := by decide +kernel
theorem dX8_seen_26 : decode cX8_seen 26 = .ok (.invokestatic 105, 3) := by decide +kernel
theorem dX8_seen_29 : decode cX8_seen 29 = .ok (.ifCond .ne 5, 3) := by decide +kernel
theorem dX8_seen_32 : decode cX8_seen 32 = .ok (.iconst (-1), 1) := by decide +kernel
theorem dX8_seen_33 : decode cX8_seen 33 = .ok (.ireturn, 1) := by decide +kernel
theorem dX8_seen_34 : decode cX8_seen 34 = .ok (.iconst 0, 1) := by decide +kernel
theorem dX8_seen_35 : decode cX8_seen 35 = .ok (.istore 4, 2) := by decide +kernel
theorem dX8_seen_37 : decode cX8_seen 37 = .ok (.iconst 0, 1) := by decide +kernel
theorem dX8_seen_38 : decode cX8_seen 38 = .ok (.istore 5, 2) := by decide +kernel
theorem dX8_seen_40 : decode cX8_seen 40 = .ok (.iload 5, 2) := by decide +kernel
theorem dX8_seen_42 : decode cX8_seen 42 = .ok (.aload_n 0, 1) := by decide +kernel
theorem dX8_seen_43 : decode cX8_seen 43 = .ok (.getfield 26, 3) := by decide +kernel
theorem dX8_seen_46 : decode cX8_seen 46 = .ok (.getfield 225, 3) := by decide +kernel
theorem dX8_seen_49 : decode cX8_seen 49 = .ok (.if_icmp .ge 37, 3) := by decide +kernel
theorem dX8_seen_52 : decode cX8_seen 52 = .ok (.aload_n 0, 1) := by decide +kernel
theorem dX8_seen_53 : decode cX8_seen 53 = .ok (.aload_n 0, 1) := by decide +kernel
theorem dX8_seen_54 : decode cX8_seen 54 = .ok (.getfield 33, 3) := by decide +kernel
theorem dX8_seen_57 : decode cX8_seen 57 = .ok (.iload_n 1, 1) := by decide +kernel
theorem dX8_seen_58 : decode cX8_seen 58 = .ok (.invokevirtual 149, 3) := by decide +kernel
theorem dX8_seen_61 : decode cX8_seen 61 = .ok (.iload 5, 2) := by decide +kernel
theorem dX8_seen_63 : decode cX8_seen 63 = .ok (.iload_n 3, 1) := by decide +kernel
theorem dX8_seen_64 : decode cX8_seen 64 = .ok (.invokevirtual 252, 3) := by decide +kernel
theorem dX8_seen_67 : decode cX8_seen 67 = .ok (.iload_n 2, 1) := by decide +kernel
theorem dX8_seen_68 : decode cX8_seen 68 = .ok (.if_icmp .ne 12, 3) := by decide +kernel
theorem dX8_seen_71 : decode cX8_seen 71 = .ok (.iload 4, 2) := by decide +kernel
theorem dX8_seen_73 : decode cX8_seen 73 = .ok (.iconst 1, 1) := by decide +kernel
theorem dX8_seen_74 : decode cX8_seen 74 = .ok (.iload 5, 2) := by decide +kernel
theorem dX8_seen_76 : decode cX8_seen 76 = .ok (.ishl, 1) := by decide +kernel
theorem dX8_seen_77 : decode cX8_seen 77 = .ok (.ior, 1) := by decide +kernel
theorem dX8_seen_78 : decode cX8_seen 78 = .ok (.istore 4, 2) := by decide +kernel
theorem dX8_seen_80 : decode cX8_seen 80 = .ok (.iinc 5 1, 3) := by decide +kernel
theorem dX8_seen_83 : decode cX8_seen 83 = .ok (.goto (-43), 3) := by decide +kernel
theorem dX8_seen_86 : decode cX8_seen 86 = .ok (.iload 4, 2) := by decide +kernel
theorem dX8_seen_88 : decode cX8_seen 88 = .ok (.ireturn, 1) := by decide +kernel
theorem dX8_rains_0 : decode cX8_rains 0 = .ok (.aload_n 0, 1) := by decide +kernel
theorem dX8_rains_1 : decode cX8_rains 1 = .ok (.getfield 26, 3) := by decide +kernel
theorem dX8_rains_4 : decode cX8_rains 4 = .ok (.iload_n 1, 1) := by decide +kernel
theorem dX8_rains_5 : decode cX8_rains 5 = .ok (.invokevirtual 146, 3) := by decide +kernel
theorem dX8_rains_8 : decode cX8_rains 8 = .ok (.ifCond .eq 33, 3) := by decide +kernel
theorem dX8_rains_11 : decode cX8_rains 11 = .ok (.iload_n 2, 1) := by decide +kernel
theorem dX8_rains_12 : decode cX8_rains 12 = .ok (.iconst 0, 1) := by decide +kernel
theorem dX8_rains_13 : decode cX8_rains 13 = .ok (.bipush 8, 2) := by decide +kernel
theorem dX8_rains_15 : decode cX8_rains 15 = .ok (.invokestatic 105, 3) := by decide +kernel
theorem dX8_rains_18 : decode cX8_rains 18 = .ok (.ifCond .eq 23, 3) := by decide +kernel
theorem dX8_rains_21 : decode cX8_rains 21 = .ok (.iload_n 3, 1) := by decide +kernel
theorem dX8_rains_22 : decode cX8_rains 22 = .ok (.iconst 0, 1) := by decide +kernel
theorem dX8_rains_23 : decode cX8_rains 23 = .ok (.bipush 10, 2) := by decide +kernel
theorem dX8_rains_25 : decode cX8_rains 25 = .ok (.invokestatic 105, 3) := by decide +kernel
theorem dX8_rains_28 : decode cX8_rains 28 = .ok (.ifCond .eq 13, 3) := by decide +kernel
theorem dX8_rains_31 : decode cX8_rains 31 = .ok (.iload 4, 2) := by decide +kernel
theorem dX8_rains_33 : decode cX8_rains 33 = .ok (.iconst 0, 1) := by decide +kernel
theorem dX8_rains_34 : decode cX8_rains 34 = .ok (.iconst 1, 1) := by decide +kernel
theorem dX8_rains_35 : decode cX8_rains 35 = .ok (.invokestatic 105, 3) := by decide +kernel
theorem dX8_rains_38 : decode cX8_rains 38 = .ok (.ifCond .ne 5, 3) := by decide +kernel
theorem dX8_rains_41 : decode cX8_rains 41 = .ok (.iconst (-1), 1) := by decide +kernel
theorem dX8_rains_42 : decode cX8_rains 42 = .ok (.ireturn, 1) := by decide +kernel
theorem dX8_rains_43 : decode cX8_rains 43 = .ok (.aload_n 0, 1) := by decide +kernel
theorem dX8_rains_44 : decode cX8_rains 44 = .ok (.getfield 33, 3) := by decide +kernel
theorem dX8_rains_47 : decode cX8_rains 47 = .ok (.iload_n 1, 1) := by decide +kernel
theorem dX8_rains_48 : decode cX8_rains 48 = .ok (.invokevirtual 149, 3) := by decide +kernel
theorem dX8_rains_51 : decode cX8_rains 51 = .ok (.astore 5, 2) := by decide +kernel
theorem dX8_rains_53 : decode cX8_rains 53 = .ok (.aload_n 0, 1) := by decide +kernel
theorem dX8_rains_54 : decode cX8_rains 54 = .ok (.getfield 75, 3) := by decide +kernel
theorem dX8_rains_57 : decode cX8_rains 57 = .ok (.aload_n 0, 1) := by decide +kernel
theorem dX8_rains_58 : decode cX8_rains 58 = .ok (.getfield 26, 3) := by decide +kernel
theorem dX8_rains_61 : decode cX8_rains 61 = .ok (.aload_n 0, 1) := by decide +kernel
theorem dX8_rains_62 : decode cX8_rains 62 = .ok (.getfield 33, 3) := by decide +kernel
theorem dX8_rains_65 : decode cX8_rains 65 = .ok (.aload 5, 2) := by decide +kernel
theorem dX8_rains_67 : decode cX8_rains 67 = .ok (.getfield 159, 3) := by decide +kernel
theorem dX8_rains_70 : decode cX8_rains 70 = .ok (.aload 5, 2) := by decide +kernel
theorem dX8_rains_72 : decode cX8_rains 72 = .ok (.getfield 156, 3) := by decide +kernel
theorem dX8_rains_75 : decode cX8_rains 75 = .ok (.invokevirtual 174, 3) := by decide +kernel
theorem dX8_rains_78 : decode cX8_rains 78 = .ok (.aload_n 0, 1) := by decide +kernel
theorem dX8_rains_79 : decode cX8_rains 79 = .ok (.getfield 59, 3) := by decide +kernel
theorem dX8_rains_82 : decode cX8_rains 82 = .ok (.aload_n 0, 1) := by decide +kernel
theorem dX8_rains_83 : decode cX8_rains 83 = .ok (.getfield 33, 3) := by decide +kernel
theorem dX8_rains_86 : decode cX8_rains 86 = .ok (.invokevirtual 232, 3) := by decide +kernel
theorem dX8_rains_89 : decode cX8_rains 89 = .ok (.aload_n 0, 1) := by decide +kernel
theorem dX8_rains_90 : decode cX8_rains 90 = .ok (.getfield 59, 3) := by decide +kernel
theorem dX8_rains_93 : decode cX8_rains 93 = .ok (.iconst 3, 1) := by decide +kernel
theorem dX8_rains_94 : decode cX8_rains 94 = .ok (.putfield 136, 3) := by decide +kernel
theorem dX8_rains_97 : decode cX8_rains 97 = .ok (.aload_n 0, 1) := by decide +kernel
theorem dX8_rains_98 : decode cX8_rains 98 = .ok (.getfield 79, 3) := by decide +kernel
theorem dX8_rains_101 : decode cX8_rains 101 = .ok (.aload_n 0, 1) := by decide +kernel
theorem dX8_rains_102 : decode cX8_rains 102 = .ok (.getfield 26, 3) := by decide +kernel
theorem dX8_rains_105 : decode cX8_rains 105 = .ok (.aload_n 0, 1) := by decide +kernel
theorem dX8_rains_106 : decode cX8_rains 106 = .ok (.getfield 59, 3) := by decide +kernel
theorem dX8_rains_109 : decode cX8_rains 109 = .ok (.aload 5, 2) := by decide +kernel
theorem dX8_rains_111 : decode cX8_rains 111 = .ok (.getfield 159, 3) := by decide +kernel
theorem dX8_rains_114 : decode cX8_rains 114 = .ok (.aload 5, 2) := by decide +kernel
theorem dX8_rains_116 : decode cX8_rains 116 = .ok (.getfield 156, 3) := by decide +kernel
theorem dX8_rains_119 : decode cX8_rains 119 = .ok (.invokevirtual 174, 3) := by decide +kernel
theorem dX8_rains_122 : decode cX8_rains 122 = .ok (.iconst 1, 1) := by decide +kernel
theorem dX8_rains_123 : decode cX8_rains 123 = .ok (.istore 6, 2) := by decide +kernel
theorem dX8_rains_125 : decode cX8_rains 125 = .ok (.iconst 0, 1) := by decide +kernel
theorem dX8_rains_126 : decode cX8_rains 126 = .ok (.istore 7, 2) := by decide +kernel
theorem dX8_rains_128 : decode cX8_rains 128 = .ok (.iload 7, 2) := by decide +kernel
theorem dX8_rains_130 : decode cX8_rains 130 = .ok (.iload_n 2, 1) := by decide +kernel
theorem dX8_rains_131 : decode cX8_rains 131 = .ok (.if_icmp .ge 16, 3) := by decide +kernel
theorem dX8_rains_134 : decode cX8_rains 134 = .ok (.iload 6, 2) := by decide +kernel
theorem dX8_rains_136 : decode cX8_rains 136 = .ok (.bipush 10, 2) := by decide +kernel
theorem dX8_rains_138 : decode cX8_rains 138 = .ok (.imul, 1) := by decide +kernel
theorem dX8_rains_139 : decode cX8_rains 139 = .ok (.istore 6, 2) := by decide +kernel
theorem dX8_rains_141 : decode cX8_rains 141 = .ok (.iinc 7 1, 3) := by decide +kernel
theorem dX8_rains_144 : decode cX8_rains 144 = .ok (.goto (-16), 3) := by decide +kernel
theorem dX8_rains_147 : decode cX8_rains 147 = .ok (.iconst 0, 1) := by decide +kernel
theorem dX8_rains_148 : decode cX8_rains 148 = .ok (.istore 7, 2) := by decide +kernel
theorem dX8_rains_150 : decode cX8_rains 150 = .ok (.iconst 0, 1) := by decide +kernel
theorem dX8_rains_151 : decode cX8_rains 151 = .ok (.istore 8, 2) := by decide +kernel
theorem dX8_rains_153 : decode cX8_rains 153 = .ok (.iload 8, 2) := by decide +kernel
theorem dX8_rains_155 : decode cX8_rains 155 = .ok (.iconst 1, 1) := by decide +kernel
theorem dX8_rains_156 : decode cX8_rains 156 = .ok (.iload_n 2, 1) := by decide +kernel
theorem dX8_rains_157 : decode cX8_rains 157 = .ok (.ishl, 1) := by decide +kernel
theorem dX8_rains_158 : decode cX8_rains 158 = .ok (.if_icmp .ge 24, 3) := by decide +kernel
theorem dX8_rains_161 : decode cX8_rains 161 = .ok (.iload 7, 2) := by decide +kernel
theorem dX8_rains_163 : decode cX8_rains 163 = .ok (.aload_n 0, 1) := by decide +kernel
theorem dX8_rains_164 : decode cX8_rains 164 = .ok (.aload 5, 2) := by decide +kernel
theorem dX8_rains_166 : decode cX8_rains 166 = .ok (.iload 8, 2) := by decide +kernel
theorem dX8_rains_168 : decode cX8_rains 168 = .ok (.iload_n 2, 1) := by decide +kernel
theorem dX8_rains_169 : decode cX8_rains 169 = .ok (.iload_n 3, 1) := by decide +kernel
theorem dX8_rains_170 : decode cX8_rains 170 = .ok (.invokevirtual 256, 3) := by decide +kernel
theorem dX8_rains_173 : decode cX8_rains 173 = .ok (.iadd, 1) := by decide +kernel
theorem dX8_rains_174 : decode cX8_rains 174 = .ok (.istore 7, 2) := by decide +kernel
theorem dX8_rains_176 : decode cX8_rains 176 = .ok (.iinc 8 1, 3) := by decide +kernel
theorem dX8_rains_179 : decode cX8_rains 179 = .ok (.goto (-26), 3) := by decide +kernel
theorem dX8_rains_182 : decode cX8_rains 182 = .ok (.iload 6, 2) := by decide +kernel
theorem dX8_rains_184 : decode cX8_rains 184 = .ok (.iload 7, 2) := by decide +kernel
theorem dX8_rains_186 : decode cX8_rains 186 = .ok (.invokestatic 260, 3) := by decide +kernel
theorem dX8_rains_189 : decode cX8_rains 189 = .ok (.istore 8, 2) := by decide +kernel
theorem dX8_rains_191 : decode cX8_rains 191 = .ok (.iload 4, 2) := by decide +kernel
theorem dX8_rains_193 : decode cX8_rains 193 = .ok (.ifCond .ne 8, 3) := by decide +kernel
theorem dX8_rains_196 : decode cX8_rains 196 = .ok (.iload 7, 2) := by decide +kernel
theorem dX8_rains_198 : decode cX8_rains 198 = .ok (.goto 5, 3) := by decide +kernel
theorem dX8_rains_201 : decode cX8_rains 201 = .ok (.iload 6, 2) := by decide +kernel
theorem dX8_rains_203 : decode cX8_rains 203 = .ok (.istore 9, 2) := by decide +kernel
theorem dX8_rains_205 : decode cX8_rains 205 = .ok (.iload 8, 2) := by decide +kernel
theorem dX8_rains_207 : decode cX8_rains 207 = .ok (.ifCond .le 11, 3) := by decide +kernel
theorem dX8_rains_210 : decode cX8_rains 210 = .ok (.iload 9, 2) := by decide +kernel
theorem dX8_rains_212 : decode cX8_rains 212 = .ok (.iload 8, 2) := by decide +kernel
theorem dX8_rains_214 : decode cX8_rains 214 = .ok (.idiv, 1) := by decide +kernel
theorem dX8_rains_215 : decode cX8_rains 215 = .ok (.goto 5, 3) := by decide +kernel
theorem dX8_rains_218 : decode cX8_rains 218 = .ok (.iload 9, 2) := by decide +kernel
theorem dX8_rains_220 : decode cX8_rains 220 = .ok (.ireturn, 1) := by decide +kernel
theorem dX8_year_0 : decode cX8_year 0 = .ok (.iload_n 1, 1) := by decide +kernel
theorem dX8_year_1 : decode cX8_year 1 = .ok (.iconst 0, 1) := by decide +kernel
theorem dX8_year_2 : decode cX8_year 2 = .ok (.sipush 9999, 3) := by decide +kernel
theorem dX8_year_5 : decode cX8_year 5 = .ok (.invokestatic 105, 3) := by decide +kernel
theorem dX8_year_8 : decode cX8_year 8 = .ok (.ifCond .eq 22, 3) := by decide +kernel
theorem dX8_year_11 : decode cX8_year 11 = .ok (.iload_n 2, 1) := by decide +kernel
theorem dX8_year_12 : decode cX8_year 12 = .ok (.iconst 1, 1) := by decide +kernel
theorem dX8_year_13 : decode cX8_year 13 = .ok (.bipush 60, 2) := by decide +kernel
theorem dX8_year_15 : decode cX8_year 15 = .ok (.invokestatic 105, 3) := by decide +kernel
theorem dX8_year_18 : decode cX8_year 18 = .ok (.ifCond .eq 12, 3) := by decide +kernel
theorem dX8_year_21 : decode cX8_year 21 = .ok (.iload_n 3, 1) := by decide +kernel
theorem dX8_year_22 : decode cX8_year 22 = .ok (.iconst 0, 1) := by decide +kernel
theorem dX8_year_23 : decode cX8_year 23 = .ok (.iconst 1, 1) := by decide +kernel
theorem dX8_year_24 : decode cX8_year 24 = .ok (.invokestatic 105, 3) := by decide +kernel
theorem dX8_year_27 : decode cX8_year 27 = .ok (.ifCond .ne 5, 3) := by decide +kernel
theorem dX8_year_30 : decode cX8_year 30 = .ok (.iconst (-1), 1) := by decide +kernel
theorem dX8_year_31 : decode cX8_year 31 = .ok (.ireturn, 1) := by decide +kernel
theorem dX8_year_32 : decode cX8_year 32 = .ok (.aload_n 0, 1) := by decide +kernel
theorem dX8_year_33 : decode cX8_year 33 = .ok (.getfield 59, 3) := by decide +kernel
theorem dX8_year_36 : decode cX8_year 36 = .ok (.aload_n 0, 1) := by decide +kernel
theorem dX8_year_37 : decode cX8_year 37 = .ok (.getfield 33, 3) := by decide +kernel
theorem dX8_year_40 : decode cX8_year 40 = .ok (.invokevirtual 232, 3) := by decide +kernel
theorem dX8_year_43 : decode cX8_year 43 = .ok (.iconst 0, 1) := by decide +kernel
theorem dX8_year_44 : decode cX8_year 44 = .ok (.istore 4, 2) := by decide +kernel
theorem dX8_year_46 : decode cX8_year 46 = .ok (.iload 4, 2) := by decide +kernel
theorem dX8_year_48 : decode cX8_year 48 = .ok (.iload_n 2, 1) := by decide +kernel
theorem dX8_year_49 : decode cX8_year 49 = .ok (.if_icmp .ge 31, 3) := by decide +kernel
theorem dX8_year_52 : decode cX8_year 52 = .ok (.aload_n 0, 1) := by decide +kernel
theorem dX8_year_53 : decode cX8_year 53 = .ok (.aload_n 0, 1) := by decide +kernel
theorem dX8_year_54 : decode cX8_year 54 = .ok (.getfield 59, 3) := by decide +kernel
theorem dX8_year_57 : decode cX8_year 57 = .ok (.iload_n 1, 1) := by decide +kernel
theorem dX8_year_58 : decode cX8_year 58 = .ok (.iload 4, 2) := by decide +kernel
theorem dX8_year_60 : decode cX8_year 60 = .ok (.invokestatic 263, 3) := by decide +kernel
theorem dX8_year_63 : decode cX8_year 63 = .ok (.invokevirtual 266, 3) := by decide +kernel
theorem dX8_year_66 : decode cX8_year 66 = .ok (.aload_n 0, 1) := by decide +kernel
theorem dX8_year_67 : decode cX8_year 67 = .ok (.aload_n 0, 1) := by decide +kernel
theorem dX8_year_68 : decode cX8_year 68 = .ok (.getfield 59, 3) := by decide +kernel
theorem dX8_year_71 : decode cX8_year 71 = .ok (.invokevirtual 192, 3) := by decide +kernel
theorem dX8_year_74 : decode cX8_year 74 = .ok (.iinc 4 1, 3) := by decide +kernel
theorem dX8_year_77 : decode cX8_year 77 = .ok (.goto (-31), 3) := by decide +kernel
theorem dX8_year_80 : decode cX8_year 80 = .ok (.aload_n 0, 1) := by decide +kernel
theorem dX8_year_81 : decode cX8_year 81 = .ok (.getfield 59, 3) := by decide +kernel
theorem dX8_year_84 : decode cX8_year 84 = .ok (.aload_n 0, 1) := by decide +kernel
theorem dX8_year_85 : decode cX8_year 85 = .ok (.getfield 26, 3) := by decide +kernel
theorem dX8_year_88 : decode cX8_year 88 = .ok (.iload_n 3, 1) := by decide +kernel
theorem dX8_year_89 : decode cX8_year 89 = .ok (.ifCond .ne 7, 3) := by decide +kernel
theorem dX8_year_92 : decode cX8_year 92 = .ok (.iconst 1, 1) := by decide +kernel
theorem dX8_year_93 : decode cX8_year 93 = .ok (.goto 4, 3) := by decide +kernel
theorem dX8_year_96 : decode cX8_year 96 = .ok (.iconst 2, 1) := by decide +kernel
theorem dX8_year_97 : decode cX8_year 97 = .ok (.invokevirtual 270, 3) := by decide +kernel
theorem dX8_year_100 : decode cX8_year 100 = .ok (.ireturn, 1) := by decide +kernel
theorem dX8_keep_0 : decode cX8_keep 0 = .ok (.aload_n 0, 1) := by decide +kernel
theorem dX8_keep_1 : decode cX8_keep 1 = .ok (.getfield 46, 3) := by decide +kernel
theorem dX8_keep_4 : decode cX8_keep 4 = .ok (.invokevirtual 273, 3) := by decide +kernel
theorem dX8_keep_7 : decode cX8_keep 7 = .ok (.ifCond .eq 6, 3) := by decide +kernel
theorem dX8_keep_10 : decode cX8_keep 10 = .ok (.bipush (-3), 2) := by decide +kernel
theorem dX8_keep_12 : decode cX8_keep 12 = .ok (.ireturn, 1) := by decide +kernel
theorem dX8_keep_13 : decode cX8_keep 13 = .ok (.aload_n 0, 1) := by decide +kernel
theorem dX8_keep_14 : decode cX8_keep 14 = .ok (.getfield 46, 3) := by decide +kernel
theorem dX8_keep_17 : decode cX8_keep 17 = .ok (.aload_n 0, 1) := by decide +kernel
theorem dX8_keep_18 : decode cX8_keep 18 = .ok (.getfield 33, 3) := by decide +kernel
theorem dX8_keep_21 : decode cX8_keep 21 = .ok (.invokevirtual 189, 3) := by decide +kernel
theorem dX8_keep_24 : decode cX8_keep 24 = .ok (.aload_n 0, 1) := by decide +kernel
theorem dX8_keep_25 : decode cX8_keep 25 = .ok (.getfield 46, 3) := by decide +kernel
theorem dX8_keep_28 : decode cX8_keep 28 = .ok (.getfield 209, 3) := by decide +kernel
theorem dX8_keep_31 : decode cX8_keep 31 = .ok (.ireturn, 1) := by decide +kernel
theorem dX8_back_0 : decode cX8_back 0 = .ok (.aload_n 0, 1) := by decide +kernel
theorem dX8_back_1 : decode cX8_back 1 = .ok (.getfield 46, 3) := by decide +kernel
theorem dX8_back_4 : decode cX8_back 4 = .ok (.aload_n 0, 1) := by decide +kernel
theorem dX8_back_5 : decode cX8_back 5 = .ok (.getfield 33, 3) := by decide +kernel
theorem dX8_back_8 : decode cX8_back 8 = .ok (.invokevirtual 205, 3) := by decide +kernel
theorem dX8_back_11 : decode cX8_back 11 = .ok (.ifCond .ne 6, 3) := by decide +kernel
theorem dX8_back_14 : decode cX8_back 14 = .ok (.bipush (-2), 2) := by decide +kernel
theorem dX8_back_16 : decode cX8_back 16 = .ok (.ireturn, 1) := by decide +kernel
theorem dX8_back_17 : decode cX8_back 17 = .ok (.aload_n 0, 1) := by decide +kernel
theorem dX8_back_18 : decode cX8_back 18 = .ok (.getfield 42, 3) := by decide +kernel
theorem dX8_back_21 : decode cX8_back 21 = .ok (.iconst 0, 1) := by decide +kernel
theorem dX8_back_22 : decode cX8_back 22 = .ok (.putfield 209, 3) := by decide +kernel
theorem dX8_back_25 : decode cX8_back 25 = .ok (.aload_n 0, 1) := by decide +kernel
theorem dX8_back_26 : decode cX8_back 26 = .ok (.getfield 46, 3) := by decide +kernel
theorem dX8_back_29 : decode cX8_back 29 = .ok (.getfield 209, 3) := by decide +kernel
theorem dX8_back_32 : decode cX8_back 32 = .ok (.ireturn, 1) := by decide +kernel
theorem dX8_count_0 : decode cX8_count 0 = .ok (.iload_n 1, 1) := by decide +kernel
theorem dX8_count_1 : decode cX8_count 1 = .ok (.tableswitch 175 0 12 #[67, 75, 83, 91, 99, 107, 115, 128, 141, 146, 151, 159, 167], 67) := by decide +kernel
theorem dX8_count_68 : decode cX8_count 68 = .ok (.aload_n 0, 1) := by decide +kernel
theorem dX8_count_69 : decode cX8_count 69 = .ok (.getfield 26, 3) := by decide +kernel
theorem dX8_count_72 : decode cX8_count 72 = .ok (.getfield 113, 3) := by decide +kernel
theorem dX8_count_75 : decode cX8_count 75 = .ok (.ireturn, 1) := by decide +kernel
theorem dX8_count_76 : decode cX8_count 76 = .ok (.aload_n 0, 1) := by decide +kernel
theorem dX8_count_77 : decode cX8_count 77 = .ok (.getfield 26, 3) := by decide +kernel
theorem dX8_count_80 : decode cX8_count 80 = .ok (.getfield 276, 3) := by decide +kernel
theorem dX8_count_83 : decode cX8_count 83 = .ok (.ireturn, 1) := by decide +kernel
theorem dX8_count_84 : decode cX8_count 84 = .ok (.aload_n 0, 1) := by decide +kernel
theorem dX8_count_85 : decode cX8_count 85 = .ok (.getfield 26, 3) := by decide +kernel
theorem dX8_count_88 : decode cX8_count 88 = .ok (.getfield 225, 3) := by decide +kernel
theorem dX8_count_91 : decode cX8_count 91 = .ok (.ireturn, 1) := by decide +kernel
theorem dX8_count_92 : decode cX8_count 92 = .ok (.aload_n 0, 1) := by decide +kernel
theorem dX8_count_93 : decode cX8_count 93 = .ok (.getfield 26, 3) := by decide +kernel
theorem dX8_count_96 : decode cX8_count 96 = .ok (.getfield 279, 3) := by decide +kernel
theorem dX8_count_99 : decode cX8_count 99 = .ok (.ireturn, 1) := by decide +kernel
theorem dX8_count_100 : decode cX8_count 100 = .ok (.aload_n 0, 1) := by decide +kernel
theorem dX8_count_101 : decode cX8_count 101 = .ok (.getfield 33, 3) := by decide +kernel
theorem dX8_count_104 : decode cX8_count 104 = .ok (.getfield 136, 3) := by decide +kernel
theorem dX8_count_107 : decode cX8_count 107 = .ok (.ireturn, 1) := by decide +kernel
theorem dX8_count_108 : decode cX8_count 108 = .ok (.aload_n 0, 1) := by decide +kernel
theorem dX8_count_109 : decode cX8_count 109 = .ok (.getfield 33, 3) := by decide +kernel
theorem dX8_count_112 : decode cX8_count 112 = .ok (.getfield 195, 3) := by decide +kernel
theorem dX8_count_115 : decode cX8_count 115 = .ok (.ireturn, 1) := by decide +kernel
theorem dX8_count_116 : decode cX8_count 116 = .ok (.aload_n 0, 1) := by decide +kernel
theorem dX8_count_117 : decode cX8_count 117 = .ok (.getfield 33, 3) := by decide +kernel
theorem dX8_count_120 : decode cX8_count 120 = .ok (.aload_n 0, 1) := by decide +kernel
theorem dX8_count_121 : decode cX8_count 121 = .ok (.getfield 26, 3) := by decide +kernel
theorem dX8_count_124 : decode cX8_count 124 = .ok (.iconst 1, 1) := by decide +kernel
theorem dX8_count_125 : decode cX8_count 125 = .ok (.invokevirtual 270, 3) := by decide +kernel
theorem dX8_count_128 : decode cX8_count 128 = .ok (.ireturn, 1) := by decide +kernel
theorem dX8_count_129 : decode cX8_count 129 = .ok (.aload_n 0, 1) := by decide +kernel
theorem dX8_count_130 : decode cX8_count 130 = .ok (.getfield 33, 3) := by decide +kernel
theorem dX8_count_133 : decode cX8_count 133 = .ok (.aload_n 0, 1) := by decide +kernel
theorem dX8_count_134 : decode cX8_count 134 = .ok (.getfield 26, 3) := by decide +kernel
theorem dX8_count_137 : decode cX8_count 137 = .ok (.iconst 2, 1) := by decide +kernel
theorem dX8_count_138 : decode cX8_count 138 = .ok (.invokevirtual 270, 3) := by decide +kernel
theorem dX8_count_141 : decode cX8_count 141 = .ok (.ireturn, 1) := by decide +kernel
theorem dX8_count_142 : decode cX8_count 142 = .ok (.aload_n 0, 1) := by decide +kernel
theorem dX8_count_143 : decode cX8_count 143 = .ok (.invokevirtual 282, 3) := by decide +kernel
theorem dX8_count_146 : decode cX8_count 146 = .ok (.ireturn, 1) := by decide +kernel
theorem dX8_count_147 : decode cX8_count 147 = .ok (.aload_n 0, 1) := by decide +kernel
theorem dX8_count_148 : decode cX8_count 148 = .ok (.getfield 242, 3) := by decide +kernel
theorem dX8_count_151 : decode cX8_count 151 = .ok (.ireturn, 1) := by decide +kernel
theorem dX8_count_152 : decode cX8_count 152 = .ok (.aload_n 0, 1) := by decide +kernel
theorem dX8_count_153 : decode cX8_count 153 = .ok (.getfield 42, 3) := by decide +kernel
theorem dX8_count_156 : decode cX8_count 156 = .ok (.getfield 209, 3) := by decide +kernel
theorem dX8_count_159 : decode cX8_count 159 = .ok (.ireturn, 1) := by decide +kernel
theorem dX8_count_160 : decode cX8_count 160 = .ok (.aload_n 0, 1) := by decide +kernel
theorem dX8_count_161 : decode cX8_count 161 = .ok (.getfield 46, 3) := by decide +kernel
theorem dX8_count_164 : decode cX8_count 164 = .ok (.getfield 209, 3) := by decide +kernel
theorem dX8_count_167 : decode cX8_count 167 = .ok (.ireturn, 1) := by decide +kernel
theorem dX8_count_168 : decode cX8_count 168 = .ok (.aload_n 0, 1) := by decide +kernel
theorem dX8_count_169 : decode cX8_count 169 = .ok (.getfield 10, 3) := by decide +kernel
theorem dX8_count_172 : decode cX8_count 172 = .ok (.getfield 102, 3) := by decide +kernel
theorem dX8_count_175 : decode cX8_count 175 = .ok (.ireturn, 1) := by decide +kernel
theorem dX8_count_176 : decode cX8_count 176 = .ok (.iconst (-1), 1) := by decide +kernel
theorem dX8_count_177 : decode cX8_count 177 = .ok (.ireturn, 1) := by decide +kernel
theorem dX8_within_0 : decode cX8_within 0 = .ok (.iload_n 0, 1) := by decide +kernel
theorem dX8_within_1 : decode cX8_within 1 = .ok (.iload_n 1, 1) := by decide +kernel
theorem dX8_within_2 : decode cX8_within 2 = .ok (.if_icmp .lt 12, 3) := by decide +kernel
theorem dX8_within_5 : decode cX8_within 5 = .ok (.iload_n 0, 1) := by decide +kernel
theorem dX8_within_6 : decode cX8_within 6 = .ok (.iload_n 2, 1) := by decide +kernel
theorem dX8_within_7 : decode cX8_within 7 = .ok (.if_icmp .gt 7, 3) := by decide +kernel
theorem dX8_within_10 : decode cX8_within 10 = .ok (.iconst 1, 1) := by decide +kernel
theorem dX8_within_11 : decode cX8_within 11 = .ok (.goto 4, 3) := by decide +kernel
theorem dX8_within_14 : decode cX8_within 14 = .ok (.iconst 0, 1) := by decide +kernel
theorem dX8_within_15 : decode cX8_within 15 = .ok (.ireturn, 1) := by decide +kernel
theorem dX8_figureOf_0 : decode cX8_figureOf 0 = .ok (.iload_n 0, 1) := by decide +kernel
theorem dX8_figureOf_1 : decode cX8_figureOf 1 = .ok (.bipush 48, 2) := by decide +kernel
theorem dX8_figureOf_3 : decode cX8_figureOf 3 = .ok (.if_icmp .lt 16, 3) := by decide +kernel
theorem dX8_figureOf_6 : decode cX8_figureOf 6 = .ok (.iload_n 0, 1) := by decide +kernel
theorem dX8_figureOf_7 : decode cX8_figureOf 7 = .ok (.bipush 57, 2) := by decide +kernel
theorem dX8_figureOf_9 : decode cX8_figureOf 9 = .ok (.if_icmp .gt 10, 3) := by decide +kernel
theorem dX8_figureOf_12 : decode cX8_figureOf 12 = .ok (.iload_n 0, 1) := by decide +kernel
theorem dX8_figureOf_13 : decode cX8_figureOf 13 = .ok (.bipush 48, 2) := by decide +kernel
theorem dX8_figureOf_15 : decode cX8_figureOf 15 = .ok (.isub, 1) := by decide +kernel
theorem dX8_figureOf_16 : decode cX8_figureOf 16 = .ok (.goto 4, 3) := by decide +kernel
theorem dX8_figureOf_19 : decode cX8_figureOf 19 = .ok (.iconst (-1), 1) := by decide +kernel
theorem dX8_figureOf_20 : decode cX8_figureOf 20 = .ok (.ireturn, 1) := by decide +kernel
theorem dX8_modulo_0 : decode cX8_modulo 0 = .ok (.iload_n 1, 1) := by decide +kernel
theorem dX8_modulo_1 : decode cX8_modulo 1 = .ok (.ifCond .le 9, 3) := by decide +kernel
theorem dX8_modulo_4 : decode cX8_modulo 4 = .ok (.iload_n 0, 1) := by decide +kernel
theorem dX8_modulo_5 : decode cX8_modulo 5 = .ok (.iload_n 1, 1) := by decide +kernel
theorem dX8_modulo_6 : decode cX8_modulo 6 = .ok (.irem, 1) := by decide +kernel
theorem dX8_modulo_7 : decode cX8_modulo 7 = .ok (.goto 4, 3) := by decide +kernel
theorem dX8_modulo_10 : decode cX8_modulo 10 = .ok (.iconst 0, 1) := by decide +kernel
theorem dX8_modulo_11 : decode cX8_modulo 11 = .ok (.ireturn, 1) := by decide +kernel
theorem dX8_greatestDivisor_0 : decode cX8_greatestDivisor 0 = .ok (.iload_n 0, 1) := by decide +kernel
theorem dX8_greatestDivisor_1 : decode cX8_greatestDivisor 1 = .ok (.istore_n 2, 1) := by decide +kernel
theorem dX8_greatestDivisor_2 : decode cX8_greatestDivisor 2 = .ok (.iload_n 1, 1) := by decide +kernel
theorem dX8_greatestDivisor_3 : decode cX8_greatestDivisor 3 = .ok (.istore_n 3, 1) := by decide +kernel
theorem dX8_greatestDivisor_4 : decode cX8_greatestDivisor 4 = .ok (.iconst 0, 1) := by decide +kernel
theorem dX8_greatestDivisor_5 : decode cX8_greatestDivisor 5 = .ok (.istore 4, 2) := by decide +kernel
theorem dX8_greatestDivisor_7 : decode cX8_greatestDivisor 7 = .ok (.iload 4, 2) := by decide +kernel
theorem dX8_greatestDivisor_9 : decode cX8_greatestDivisor 9 = .ok (.bipush 100, 2) := by decide +kernel
theorem dX8_greatestDivisor_11 : decode cX8_greatestDivisor 11 = .ok (.if_icmp .ge 23, 3) := by decide +kernel
theorem dX8_greatestDivisor_14 : decode cX8_greatestDivisor 14 = .ok (.iload_n 3, 1) := by decide +kernel
theorem dX8_greatestDivisor_15 : decode cX8_greatestDivisor 15 = .ok (.ifCond .eq 19, 3) := by decide +kernel
theorem dX8_greatestDivisor_18 : decode cX8_greatestDivisor 18 = .ok (.iload_n 2, 1) := by decide +kernel
theorem dX8_greatestDivisor_19 : decode cX8_greatestDivisor 19 = .ok (.iload_n 3, 1) := by decide +kernel
theorem dX8_greatestDivisor_20 : decode cX8_greatestDivisor 20 = .ok (.irem, 1) := by decide +kernel
theorem dX8_greatestDivisor_21 : decode cX8_greatestDivisor 21 = .ok (.istore 5, 2) := by decide +kernel
theorem dX8_greatestDivisor_23 : decode cX8_greatestDivisor 23 = .ok (.iload_n 3, 1) := by decide +kernel
theorem dX8_greatestDivisor_24 : decode cX8_greatestDivisor 24 = .ok (.istore_n 2, 1) := by decide +kernel
theorem dX8_greatestDivisor_25 : decode cX8_greatestDivisor 25 = .ok (.iload 5, 2) := by decide +kernel
theorem dX8_greatestDivisor_27 : decode cX8_greatestDivisor 27 = .ok (.istore_n 3, 1) := by decide +kernel
theorem dX8_greatestDivisor_28 : decode cX8_greatestDivisor 28 = .ok (.iinc 4 1, 3) := by decide +kernel
theorem dX8_greatestDivisor_31 : decode cX8_greatestDivisor 31 = .ok (.goto (-24), 3) := by decide +kernel
theorem dX8_greatestDivisor_34 : decode cX8_greatestDivisor 34 = .ok (.iload_n 2, 1) := by decide +kernel
theorem dX8_greatestDivisor_35 : decode cX8_greatestDivisor 35 = .ok (.ireturn, 1) := by decide +kernel
theorem dX8_hoursToEnter_0 : decode cX8_hoursToEnter 0 = .ok (.iload_n 1, 1) := by decide +kernel
theorem dX8_hoursToEnter_1 : decode cX8_hoursToEnter 1 = .ok (.iconst 2, 1) := by decide +kernel
theorem dX8_hoursToEnter_2 : decode cX8_hoursToEnter 2 = .ok (.if_icmp .lt 7, 3) := by decide +kernel
theorem dX8_hoursToEnter_5 : decode cX8_hoursToEnter 5 = .ok (.iconst 1, 1) := by decide +kernel
theorem dX8_hoursToEnter_6 : decode cX8_hoursToEnter 6 = .ok (.goto 4, 3) := by decide +kernel
theorem dX8_hoursToEnter_9 : decode cX8_hoursToEnter 9 = .ok (.iconst 0, 1) := by decide +kernel
theorem dX8_hoursToEnter_10 : decode cX8_hoursToEnter 10 = .ok (.istore_n 2, 1) := by decide +kernel
theorem dX8_hoursToEnter_11 : decode cX8_hoursToEnter 11 = .ok (.iload_n 0, 1) := by decide +kernel
theorem dX8_hoursToEnter_12 : decode cX8_hoursToEnter 12 = .ok (.tableswitch 48 1 3 #[28, 32, 36], 28) := by decide +kernel
theorem dX8_hoursToEnter_40 : decode cX8_hoursToEnter 40 = .ok (.iconst 2, 1) := by decide +kernel
theorem dX8_hoursToEnter_41 : decode cX8_hoursToEnter 41 = .ok (.iload_n 2, 1) := by decide +kernel
theorem dX8_hoursToEnter_42 : decode cX8_hoursToEnter 42 = .ok (.iadd, 1) := by decide +kernel
theorem dX8_hoursToEnter_43 : decode cX8_hoursToEnter 43 = .ok (.ireturn, 1) := by decide +kernel
theorem dX8_hoursToEnter_44 : decode cX8_hoursToEnter 44 = .ok (.iconst 3, 1) := by decide +kernel
theorem dX8_hoursToEnter_45 : decode cX8_hoursToEnter 45 = .ok (.iload_n 2, 1) := by decide +kernel
theorem dX8_hoursToEnter_46 : decode cX8_hoursToEnter 46 = .ok (.iadd, 1) := by decide +kernel
theorem dX8_hoursToEnter_47 : decode cX8_hoursToEnter 47 = .ok (.ireturn, 1) := by decide +kernel
theorem dX8_hoursToEnter_48 : decode cX8_hoursToEnter 48 = .ok (.iload_n 1, 1) := by decide +kernel
theorem dX8_hoursToEnter_49 : decode cX8_hoursToEnter 49 = .ok (.iconst 2, 1) := by decide +kernel
theorem dX8_hoursToEnter_50 : decode cX8_hoursToEnter 50 = .ok (.if_icmp .lt 8, 3) := by decide +kernel
theorem dX8_hoursToEnter_53 : decode cX8_hoursToEnter 53 = .ok (.ldc 224, 2) := by decide +kernel
theorem dX8_hoursToEnter_55 : decode cX8_hoursToEnter 55 = .ok (.goto 4, 3) := by decide +kernel
theorem dX8_hoursToEnter_58 : decode cX8_hoursToEnter 58 = .ok (.iconst 1, 1) := by decide +kernel
theorem dX8_hoursToEnter_59 : decode cX8_hoursToEnter 59 = .ok (.ireturn, 1) := by decide +kernel
theorem dX8_hoursToEnter_60 : decode cX8_hoursToEnter 60 = .ok (.iconst 1, 1) := by decide +kernel
theorem dX8_hoursToEnter_61 : decode cX8_hoursToEnter 61 = .ok (.iload_n 2, 1) := by decide +kernel
theorem dX8_hoursToEnter_62 : decode cX8_hoursToEnter 62 = .ok (.iadd, 1) := by decide +kernel
theorem dX8_hoursToEnter_63 : decode cX8_hoursToEnter 63 = .ok (.ireturn, 1) := by decide +kernel
theorem dX8_loudness_0 : decode cX8_loudness 0 = .ok (.iload_n 0, 1) := by decide +kernel
theorem dX8_loudness_1 : decode cX8_loudness 1 = .ok (.tableswitch 41 0 2 #[27, 32, 37], 27) := by decide +kernel
theorem dX8_loudness_28 : decode cX8_loudness 28 = .ok (.bipush 9, 2) := by decide +kernel
theorem dX8_loudness_30 : decode cX8_loudness 30 = .ok (.iload_n 1, 1) := by decide +kernel
theorem dX8_loudness_31 : decode cX8_loudness 31 = .ok (.isub, 1) := by decide +kernel
theorem dX8_loudness_32 : decode cX8_loudness 32 = .ok (.ireturn, 1) := by decide +kernel
theorem dX8_loudness_33 : decode cX8_loudness 33 = .ok (.bipush 6, 2) := by decide +kernel
theorem dX8_loudness_35 : decode cX8_loudness 35 = .ok (.iload_n 1, 1) := by decide +kernel
theorem dX8_loudness_36 : decode cX8_loudness 36 = .ok (.isub, 1) := by decide +kernel
theorem dX8_loudness_37 : decode cX8_loudness 37 = .ok (.ireturn, 1) := by decide +kernel
theorem dX8_loudness_38 : decode cX8_loudness 38 = .ok (.iconst 4, 1) := by decide +kernel
theorem dX8_loudness_39 : decode cX8_loudness 39 = .ok (.iload_n 1, 1) := by decide +kernel
theorem dX8_loudness_40 : decode cX8_loudness 40 = .ok (.isub, 1) := by decide +kernel
theorem dX8_loudness_41 : decode cX8_loudness 41 = .ok (.ireturn, 1) := by decide +kernel
theorem dX8_loudness_42 : decode cX8_loudness 42 = .ok (.iconst 0, 1) := by decide +kernel
theorem dX8_loudness_43 : decode cX8_loudness 43 = .ok (.ireturn, 1) := by decide +kernel
theorem dX8_layText_0 : decode cX8_layText 0 = .ok (.aload_n 0, 1) := by decide +kernel
theorem dX8_layText_1 : decode cX8_layText 1 = .ok (.getfield 19, 3) := by decide +kernel
theorem dX8_layText_4 : decode cX8_layText 4 = .ok (.aload_n 0, 1) := by decide +kernel
theorem dX8_layText_5 : decode cX8_layText 5 = .ok (.getfield 10, 3) := by decide +kernel
theorem dX8_layText_8 : decode cX8_layText 8 = .ok (.invokevirtual 109, 3) := by decide +kernel
theorem dX8_layText_11 : decode cX8_layText 11 = .ok (.bipush (-4), 2) := by decide +kernel
theorem dX8_layText_13 : decode cX8_layText 13 = .ok (.if_icmp .ne 29, 3) := by decide +kernel
theorem dX8_layText_16 : decode cX8_layText 16 = .ok (.aload_n 0, 1) := by decide +kernel
theorem dX8_layText_17 : decode cX8_layText 17 = .ok (.getfield 19, 3) := by decide +kernel
theorem dX8_layText_20 : decode cX8_layText 20 = .ok (.getfield 285, 3) := by decide +kernel
theorem dX8_layText_23 : decode cX8_layText 23 = .ok (.getfield 113, 3) := by decide +kernel
theorem dX8_layText_26 : decode cX8_layText 26 = .ok (.ifCond .eq 16, 3) := by decide +kernel
theorem dX8_layText_29 : decode cX8_layText 29 = .ok (.aload_n 0, 1) := by decide +kernel
theorem dX8_layText_30 : decode cX8_layText 30 = .ok (.getfield 19, 3) := by decide +kernel
theorem dX8_layText_33 : decode cX8_layText 33 = .ok (.getfield 285, 3) := by decide +kernel
theorem dX8_layText_36 : decode cX8_layText 36 = .ok (.getfield 225, 3) := by decide +kernel
theorem dX8_layText_39 : decode cX8_layText 39 = .ok (.ifCond .ne 5, 3) := by decide +kernel
theorem dX8_layText_42 : decode cX8_layText 42 = .ok (.iconst 0, 1) := by decide +kernel
theorem dX8_layText_43 : decode cX8_layText 43 = .ok (.ireturn, 1) := by decide +kernel
theorem dX8_layText_44 : decode cX8_layText 44 = .ok (.aload_n 0, 1) := by decide +kernel
theorem dX8_layText_45 : decode cX8_layText 45 = .ok (.getfield 26, 3) := by decide +kernel
theorem dX8_layText_48 : decode cX8_layText 48 = .ok (.aload_n 0, 1) := by decide +kernel
theorem dX8_layText_49 : decode cX8_layText 49 = .ok (.getfield 19, 3) := by decide +kernel
theorem dX8_layText_52 : decode cX8_layText 52 = .ok (.getfield 285, 3) := by decide +kernel
theorem dX8_layText_55 : decode cX8_layText 55 = .ok (.invokevirtual 286, 3) := by decide +kernel
theorem dX8_layText_58 : decode cX8_layText 58 = .ok (.aload_n 0, 1) := by decide +kernel
theorem dX8_layText_59 : decode cX8_layText 59 = .ok (.getfield 26, 3) := by decide +kernel
theorem dX8_layText_62 : decode cX8_layText 62 = .ok (.invokevirtual 289, 3) := by decide +kernel
theorem dX8_layText_65 : decode cX8_layText 65 = .ok (.aload_n 0, 1) := by decide +kernel
theorem dX8_layText_66 : decode cX8_layText 66 = .ok (.getfield 33, 3) := by decide +kernel
theorem dX8_layText_69 : decode cX8_layText 69 = .ok (.aload_n 0, 1) := by decide +kernel
theorem dX8_layText_70 : decode cX8_layText 70 = .ok (.getfield 19, 3) := by decide +kernel
theorem dX8_layText_73 : decode cX8_layText 73 = .ok (.getfield 292, 3) := by decide +kernel
theorem dX8_layText_76 : decode cX8_layText 76 = .ok (.invokevirtual 232, 3) := by decide +kernel
theorem dX8_layText_79 : decode cX8_layText 79 = .ok (.aload_n 0, 1) := by decide +kernel
theorem dX8_layText_80 : decode cX8_layText 80 = .ok (.iconst 0, 1) := by decide +kernel
theorem dX8_layText_81 : decode cX8_layText 81 = .ok (.putfield 242, 3) := by decide +kernel
theorem dX8_layText_84 : decode cX8_layText 84 = .ok (.aload_n 0, 1) := by decide +kernel
theorem dX8_layText_85 : decode cX8_layText 85 = .ok (.getfield 42, 3) := by decide +kernel
theorem dX8_layText_88 : decode cX8_layText 88 = .ok (.iconst 0, 1) := by decide +kernel
theorem dX8_layText_89 : decode cX8_layText 89 = .ok (.putfield 209, 3) := by decide +kernel
theorem dX8_layText_92 : decode cX8_layText 92 = .ok (.aload_n 0, 1) := by decide +kernel
theorem dX8_layText_93 : decode cX8_layText 93 = .ok (.getfield 46, 3) := by decide +kernel
theorem dX8_layText_96 : decode cX8_layText 96 = .ok (.iconst 0, 1) := by decide +kernel
theorem dX8_layText_97 : decode cX8_layText 97 = .ok (.putfield 209, 3) := by decide +kernel
theorem dX8_layText_100 : decode cX8_layText 100 = .ok (.iconst 1, 1) := by decide +kernel
theorem dX8_layText_101 : decode cX8_layText 101 = .ok (.ireturn, 1) := by decide +kernel
theorem dX8_letHourPass_0 : decode cX8_letHourPass 0 = .ok (.iconst 0, 1) := by decide +kernel
theorem dX8_letHourPass_1 : decode cX8_letHourPass 1 = .ok (.istore_n 2, 1) := by decide +kernel
theorem dX8_letHourPass_2 : decode cX8_letHourPass 2 = .ok (.iload_n 2, 1) := by decide +kernel
theorem dX8_letHourPass_3 : decode cX8_letHourPass 3 = .ok (.aload_n 0, 1) := by decide +kernel
theorem dX8_letHourPass_4 : decode cX8_letHourPass 4 = .ok (.getfield 26, 3) := by decide +kernel
theorem dX8_letHourPass_7 : decode cX8_letHourPass 7 = .ok (.getfield 279, 3) := by decide +kernel
theorem dX8_letHourPass_10 : decode cX8_letHourPass 10 = .ok (.if_icmp .ge 55, 3) := by decide +kernel
theorem dX8_letHourPass_13 : decode cX8_letHourPass 13 = .ok (.aload_n 1, 1) := by decide +kernel
theorem dX8_letHourPass_14 : decode cX8_letHourPass 14 = .ok (.iload_n 2, 1) := by decide +kernel
theorem dX8_letHourPass_15 : decode cX8_letHourPass 15 = .ok (.invokevirtual 149, 3) := by decide +kernel
theorem dX8_letHourPass_18 : decode cX8_letHourPass 18 = .ok (.astore_n 3, 1) := by decide +kernel
theorem dX8_letHourPass_19 : decode cX8_letHourPass 19 = .ok (.aload_n 3, 1) := by decide +kernel
theorem dX8_letHourPass_20 : decode cX8_letHourPass 20 = .ok (.invokevirtual 295, 3) := by decide +kernel
theorem dX8_letHourPass_23 : decode cX8_letHourPass 23 = .ok (.ifCond .eq 23, 3) := by decide +kernel
theorem dX8_letHourPass_26 : decode cX8_letHourPass 26 = .ok (.aload_n 0, 1) := by decide +kernel
theorem dX8_letHourPass_27 : decode cX8_letHourPass 27 = .ok (.getfield 75, 3) := by decide +kernel
theorem dX8_letHourPass_30 : decode cX8_letHourPass 30 = .ok (.aload_n 0, 1) := by decide +kernel
theorem dX8_letHourPass_31 : decode cX8_letHourPass 31 = .ok (.getfield 26, 3) := by decide +kernel
theorem dX8_letHourPass_34 : decode cX8_letHourPass 34 = .ok (.aload_n 1, 1) := by decide +kernel
theorem dX8_letHourPass_35 : decode cX8_letHourPass 35 = .ok (.aload_n 3, 1) := by decide +kernel
theorem dX8_letHourPass_36 : decode cX8_letHourPass 36 = .ok (.getfield 159, 3) := by decide +kernel
theorem dX8_letHourPass_39 : decode cX8_letHourPass 39 = .ok (.aload_n 3, 1) := by decide +kernel
theorem dX8_letHourPass_40 : decode cX8_letHourPass 40 = .ok (.getfield 156, 3) := by decide +kernel
theorem dX8_letHourPass_43 : decode cX8_letHourPass 43 = .ok (.invokevirtual 174, 3) := by decide +kernel
theorem dX8_letHourPass_46 : decode cX8_letHourPass 46 = .ok (.aload_n 0, 1) := by decide +kernel
theorem dX8_letHourPass_47 : decode cX8_letHourPass 47 = .ok (.aload_n 3, 1) := by decide +kernel
theorem dX8_letHourPass_48 : decode cX8_letHourPass 48 = .ok (.aload_n 0, 1) := by decide +kernel
theorem dX8_letHourPass_49 : decode cX8_letHourPass 49 = .ok (.getfield 75, 3) := by decide +kernel
theorem dX8_letHourPass_52 : decode cX8_letHourPass 52 = .ok (.aload_n 1, 1) := by decide +kernel
theorem dX8_letHourPass_53 : decode cX8_letHourPass 53 = .ok (.getfield 136, 3) := by decide +kernel
theorem dX8_letHourPass_56 : decode cX8_letHourPass 56 = .ok (.invokevirtual 238, 3) := by decide +kernel
theorem dX8_letHourPass_59 : decode cX8_letHourPass 59 = .ok (.iinc 2 1, 3) := by decide +kernel
theorem dX8_letHourPass_62 : decode cX8_letHourPass 62 = .ok (.goto (-60), 3) := by decide +kernel
theorem dX8_letHourPass_65 : decode cX8_letHourPass 65 = .ok (.aload_n 1, 1) := by decide +kernel
theorem dX8_letHourPass_66 : decode cX8_letHourPass 66 = .ok (.dup, 1) := by decide +kernel
theorem dX8_letHourPass_67 : decode cX8_letHourPass 67 = .ok (.getfield 195, 3) := by decide +kernel
theorem dX8_letHourPass_70 : decode cX8_letHourPass 70 = .ok (.iconst 1, 1) := by decide +kernel
theorem dX8_letHourPass_71 : decode cX8_letHourPass 71 = .ok (.iadd, 1) := by decide +kernel
theorem dX8_letHourPass_72 : decode cX8_letHourPass 72 = .ok (.putfield 195, 3) := by decide +kernel
theorem dX8_letHourPass_75 : decode cX8_letHourPass 75 = .ok (.return_, 1) := by decide +kernel
theorem dX8_walkHour_0 : decode cX8_walkHour 0 = .ok (.aload_n 1, 1) := by decide +kernel
theorem dX8_walkHour_1 : decode cX8_walkHour 1 = .ok (.invokevirtual 295, 3) := by decide +kernel
theorem dX8_walkHour_4 : decode cX8_walkHour 4 = .ok (.ifCond .eq 21, 3) := by decide +kernel
theorem dX8_walkHour_7 : decode cX8_walkHour 7 = .ok (.aload_n 0, 1) := by decide +kernel
theorem dX8_walkHour_8 : decode cX8_walkHour 8 = .ok (.aload_n 1, 1) := by decide +kernel
theorem dX8_walkHour_9 : decode cX8_walkHour 9 = .ok (.aload_n 2, 1) := by decide +kernel
theorem dX8_walkHour_10 : decode cX8_walkHour 10 = .ok (.aload_n 0, 1) := by decide +kernel
theorem dX8_walkHour_11 : decode cX8_walkHour 11 = .ok (.getfield 26, 3) := by decide +kernel
theorem dX8_walkHour_14 : decode cX8_walkHour 14 = .ok (.aload_n 1, 1) := by decide +kernel
theorem dX8_walkHour_15 : decode cX8_walkHour 15 = .ok (.getfield 153, 3) := by decide +kernel
theorem dX8_walkHour_18 : decode cX8_walkHour 18 = .ok (.invokevirtual 181, 3) := by decide +kernel
theorem dX8_walkHour_21 : decode cX8_walkHour 21 = .ok (.iload_n 3, 1) := by decide +kernel
theorem dX8_walkHour_22 : decode cX8_walkHour 22 = .ok (.invokevirtual 298, 3) := by decide +kernel
theorem dX8_walkHour_25 : decode cX8_walkHour 25 = .ok (.aload_n 1, 1) := by decide +kernel
theorem dX8_walkHour_26 : decode cX8_walkHour 26 = .ok (.invokevirtual 165, 3) := by decide +kernel
theorem dX8_walkHour_29 : decode cX8_walkHour 29 = .ok (.ifCond .eq 7, 3) := by decide +kernel
theorem dX8_walkHour_32 : decode cX8_walkHour 32 = .ok (.aload_n 1, 1) := by decide +kernel
theorem dX8_walkHour_33 : decode cX8_walkHour 33 = .ok (.invokevirtual 302, 3) := by decide +kernel
theorem dX8_walkHour_36 : decode cX8_walkHour 36 = .ok (.return_, 1) := by decide +kernel
theorem dX8_setOut_0 : decode cX8_setOut 0 = .ok (.iload_n 2, 1) := by decide +kernel
theorem dX8_setOut_1 : decode cX8_setOut 1 = .ok (.bipush (-4), 2) := by decide +kernel
theorem dX8_setOut_3 : decode cX8_setOut 3 = .ok (.if_icmp .ne 4, 3) := by decide +kernel
theorem dX8_setOut_6 : decode cX8_setOut 6 = .ok (.return_, 1) := by decide +kernel
theorem dX8_setOut_7 : decode cX8_setOut 7 = .ok (.aload_n 0, 1) := by decide +kernel
theorem dX8_setOut_8 : decode cX8_setOut 8 = .ok (.getfield 26, 3) := by decide +kernel
theorem dX8_setOut_11 : decode cX8_setOut 11 = .ok (.getfield 119, 3) := by decide +kernel
theorem dX8_setOut_14 : decode cX8_setOut 14 = .ok (.iload_n 2, 1) := by decide +kernel
theorem dX8_setOut_15 : decode cX8_setOut 15 = .ok (.invokevirtual 122, 3) := by decide +kernel
theorem dX8_setOut_18 : decode cX8_setOut 18 = .ok (.iload_n 3, 1) := by decide +kernel
theorem dX8_setOut_19 : decode cX8_setOut 19 = .ok (.invokestatic 305, 3) := by decide +kernel
theorem dX8_setOut_22 : decode cX8_setOut 22 = .ok (.istore 4, 2) := by decide +kernel
theorem dX8_setOut_24 : decode cX8_setOut 24 = .ok (.iload 4, 2) := by decide +kernel
theorem dX8_setOut_26 : decode cX8_setOut 26 = .ok (.ldc 224, 2) := by decide +kernel
theorem dX8_setOut_28 : decode cX8_setOut 28 = .ok (.if_icmp .lt 9, 3) := by decide +kernel
theorem dX8_setOut_31 : decode cX8_setOut 31 = .ok (.aload_n 1, 1) := by decide +kernel
theorem dX8_setOut_32 : decode cX8_setOut 32 = .ok (.iconst 2, 1) := by decide +kernel
theorem dX8_setOut_33 : decode cX8_setOut 33 = .ok (.putfield 162, 3) := by decide +kernel
theorem dX8_setOut_36 : decode cX8_setOut 36 = .ok (.return_, 1) := by decide +kernel
theorem dX8_setOut_37 : decode cX8_setOut 37 = .ok (.aload_n 1, 1) := by decide +kernel
theorem dX8_setOut_38 : decode cX8_setOut 38 = .ok (.iload_n 2, 1) := by decide +kernel
theorem dX8_setOut_39 : decode cX8_setOut 39 = .ok (.putfield 168, 3) := by decide +kernel
theorem dX8_setOut_42 : decode cX8_setOut 42 = .ok (.aload_n 1, 1) := by decide +kernel
theorem dX8_setOut_43 : decode cX8_setOut 43 = .ok (.iload 4, 2) := by decide +kernel
theorem dX8_setOut_45 : decode cX8_setOut 45 = .ok (.putfield 171, 3) := by decide +kernel
theorem dX8_setOut_48 : decode cX8_setOut 48 = .ok (.return_, 1) := by decide +kernel
theorem dX8_hoursUntil_0 : decode cX8_hoursUntil 0 = .ok (.aload_n 0, 1) := by decide +kernel
theorem dX8_hoursUntil_1 : decode cX8_hoursUntil 1 = .ok (.getfield 75, 3) := by decide +kernel
theorem dX8_hoursUntil_4 : decode cX8_hoursUntil 4 = .ok (.aload_n 0, 1) := by decide +kernel
theorem dX8_hoursUntil_5 : decode cX8_hoursUntil 5 = .ok (.getfield 26, 3) := by decide +kernel
theorem dX8_hoursUntil_8 : decode cX8_hoursUntil 8 = .ok (.aload_n 1, 1) := by decide +kernel
theorem dX8_hoursUntil_9 : decode cX8_hoursUntil 9 = .ok (.aload_n 0, 1) := by decide +kernel
theorem dX8_hoursUntil_10 : decode cX8_hoursUntil 10 = .ok (.getfield 65, 3) := by decide +kernel
theorem dX8_hoursUntil_13 : decode cX8_hoursUntil 13 = .ok (.getfield 159, 3) := by decide +kernel
theorem dX8_hoursUntil_16 : decode cX8_hoursUntil 16 = .ok (.aload_n 0, 1) := by decide +kernel
theorem dX8_hoursUntil_17 : decode cX8_hoursUntil 17 = .ok (.getfield 65, 3) := by decide +kernel
theorem dX8_hoursUntil_20 : decode cX8_hoursUntil 20 = .ok (.getfield 156, 3) := by decide +kernel
theorem dX8_hoursUntil_23 : decode cX8_hoursUntil 23 = .ok (.invokevirtual 174, 3) := by decide +kernel
theorem dX8_hoursUntil_26 : decode cX8_hoursUntil 26 = .ok (.iconst 0, 1) := by decide +kernel
theorem dX8_hoursUntil_27 : decode cX8_hoursUntil 27 = .ok (.istore_n 3, 1) := by decide +kernel
theorem dX8_hoursUntil_28 : decode cX8_hoursUntil 28 = .ok (.iload_n 3, 1) := by decide +kernel
theorem dX8_hoursUntil_29 : decode cX8_hoursUntil 29 = .ok (.bipush 60, 2) := by decide +kernel
theorem dX8_hoursUntil_31 : decode cX8_hoursUntil 31 = .ok (.if_icmp .gt 38, 3) := by decide +kernel
theorem dX8_hoursUntil_34 : decode cX8_hoursUntil 34 = .ok (.aload_n 0, 1) := by decide +kernel
theorem dX8_hoursUntil_35 : decode cX8_hoursUntil 35 = .ok (.getfield 65, 3) := by decide +kernel
theorem dX8_hoursUntil_38 : decode cX8_hoursUntil 38 = .ok (.getfield 162, 3) := by decide +kernel
theorem dX8_hoursUntil_41 : decode cX8_hoursUntil 41 = .ok (.iload_n 2, 1) := by decide +kernel
theorem dX8_hoursUntil_42 : decode cX8_hoursUntil 42 = .ok (.if_icmp .ne 5, 3) := by decide +kernel
theorem dX8_hoursUntil_45 : decode cX8_hoursUntil 45 = .ok (.iload_n 3, 1) := by decide +kernel
theorem dX8_hoursUntil_46 : decode cX8_hoursUntil 46 = .ok (.ireturn, 1) := by decide +kernel
theorem dX8_hoursUntil_47 : decode cX8_hoursUntil 47 = .ok (.aload_n 0, 1) := by decide +kernel
theorem dX8_hoursUntil_48 : decode cX8_hoursUntil 48 = .ok (.aload_n 0, 1) := by decide +kernel
theorem dX8_hoursUntil_49 : decode cX8_hoursUntil 49 = .ok (.getfield 65, 3) := by decide +kernel
theorem dX8_hoursUntil_52 : decode cX8_hoursUntil 52 = .ok (.aload_n 0, 1) := by decide +kernel
theorem dX8_hoursUntil_53 : decode cX8_hoursUntil 53 = .ok (.getfield 75, 3) := by decide +kernel
theorem dX8_hoursUntil_56 : decode cX8_hoursUntil 56 = .ok (.aload_n 1, 1) := by decide +kernel
theorem dX8_hoursUntil_57 : decode cX8_hoursUntil 57 = .ok (.getfield 136, 3) := by decide +kernel
theorem dX8_hoursUntil_60 : decode cX8_hoursUntil 60 = .ok (.invokevirtual 238, 3) := by decide +kernel
theorem dX8_hoursUntil_63 : decode cX8_hoursUntil 63 = .ok (.iinc 3 1, 3) := by decide +kernel
theorem dX8_hoursUntil_66 : decode cX8_hoursUntil 66 = .ok (.goto (-38), 3) := by decide +kernel
theorem dX8_hoursUntil_69 : decode cX8_hoursUntil 69 = .ok (.bipush (-4), 2) := by decide +kernel
theorem dX8_hoursUntil_71 : decode cX8_hoursUntil 71 = .ok (.ireturn, 1) := by decide +kernel
theorem dX8_hoursToArrive_0 : decode cX8_hoursToArrive 0 = .ok (.aload_n 0, 1) := by decide +kernel
theorem dX8_hoursToArrive_1 : decode cX8_hoursToArrive 1 = .ok (.getfield 65, 3) := by decide +kernel
theorem dX8_hoursToArrive_4 : decode cX8_hoursToArrive 4 = .ok (.aload_n 2, 1) := by decide +kernel
theorem dX8_hoursToArrive_5 : decode cX8_hoursToArrive 5 = .ok (.invokevirtual 212, 3) := by decide +kernel
theorem dX8_hoursToArrive_8 : decode cX8_hoursToArrive 8 = .ok (.aload_n 0, 1) := by decide +kernel
theorem dX8_hoursToArrive_9 : decode cX8_hoursToArrive 9 = .ok (.getfield 65, 3) := by decide +kernel
theorem dX8_hoursToArrive_12 : decode cX8_hoursToArrive 12 = .ok (.iload_n 3, 1) := by decide +kernel
theorem dX8_hoursToArrive_13 : decode cX8_hoursToArrive 13 = .ok (.putfield 159, 3) := by decide +kernel
theorem dX8_hoursToArrive_16 : decode cX8_hoursToArrive 16 = .ok (.aload_n 0, 1) := by decide +kernel
theorem dX8_hoursToArrive_17 : decode cX8_hoursToArrive 17 = .ok (.aload_n 1, 1) := by decide +kernel
theorem dX8_hoursToArrive_18 : decode cX8_hoursToArrive 18 = .ok (.iconst 1, 1) := by decide +kernel
theorem dX8_hoursToArrive_19 : decode cX8_hoursToArrive 19 = .ok (.invokevirtual 216, 3) := by decide +kernel
theorem dX8_hoursToArrive_22 : decode cX8_hoursToArrive 22 = .ok (.ireturn, 1) := by decide +kernel
theorem dX8_hoursLed_0 : decode cX8_hoursLed 0 = .ok (.aload_n 0, 1) := by decide +kernel
theorem dX8_hoursLed_1 : decode cX8_hoursLed 1 = .ok (.getfield 65, 3) := by decide +kernel
theorem dX8_hoursLed_4 : decode cX8_hoursLed 4 = .ok (.iload_n 2, 1) := by decide +kernel
theorem dX8_hoursLed_5 : decode cX8_hoursLed 5 = .ok (.iload_n 3, 1) := by decide +kernel
theorem dX8_hoursLed_6 : decode cX8_hoursLed 6 = .ok (.iload_n 1, 1) := by decide +kernel
theorem dX8_hoursLed_7 : decode cX8_hoursLed 7 = .ok (.invokevirtual 308, 3) := by decide +kernel
theorem dX8_hoursLed_10 : decode cX8_hoursLed 10 = .ok (.aload_n 0, 1) := by decide +kernel
theorem dX8_hoursLed_11 : decode cX8_hoursLed 11 = .ok (.aload_n 0, 1) := by decide +kernel
theorem dX8_hoursLed_12 : decode cX8_hoursLed 12 = .ok (.getfield 33, 3) := by decide +kernel
theorem dX8_hoursLed_15 : decode cX8_hoursLed 15 = .ok (.iconst 1, 1) := by decide +kernel
theorem dX8_hoursLed_16 : decode cX8_hoursLed 16 = .ok (.invokevirtual 216, 3) := by decide +kernel
theorem dX8_hoursLed_19 : decode cX8_hoursLed 19 = .ok (.ireturn, 1) := by decide +kernel
theorem dX8_placeBehind_0 : decode cX8_placeBehind 0 = .ok (.aload_n 0, 1) := by decide +kernel
theorem dX8_placeBehind_1 : decode cX8_placeBehind 1 = .ok (.getfield 65, 3) := by decide +kernel
theorem dX8_placeBehind_4 : decode cX8_placeBehind 4 = .ok (.aload_n 1, 1) := by decide +kernel
theorem dX8_placeBehind_5 : decode cX8_placeBehind 5 = .ok (.invokevirtual 212, 3) := by decide +kernel
theorem dX8_placeBehind_8 : decode cX8_placeBehind 8 = .ok (.aload_n 0, 1) := by decide +kernel
theorem dX8_placeBehind_9 : decode cX8_placeBehind 9 = .ok (.getfield 65, 3) := by decide +kernel
theorem dX8_placeBehind_12 : decode cX8_placeBehind 12 = .ok (.iload_n 2, 1) := by decide +kernel
theorem dX8_placeBehind_13 : decode cX8_placeBehind 13 = .ok (.putfield 159, 3) := by decide +kernel
theorem dX8_placeBehind_16 : decode cX8_placeBehind 16 = .ok (.aload_n 0, 1) := by decide +kernel
theorem dX8_placeBehind_17 : decode cX8_placeBehind 17 = .ok (.getfield 75, 3) := by decide +kernel
theorem dX8_placeBehind_20 : decode cX8_placeBehind 20 = .ok (.aload_n 0, 1) := by decide +kernel
theorem dX8_placeBehind_21 : decode cX8_placeBehind 21 = .ok (.getfield 26, 3) := by decide +kernel
theorem dX8_placeBehind_24 : decode cX8_placeBehind 24 = .ok (.aload_n 0, 1) := by decide +kernel
theorem dX8_placeBehind_25 : decode cX8_placeBehind 25 = .ok (.getfield 33, 3) := by decide +kernel
theorem dX8_placeBehind_28 : decode cX8_placeBehind 28 = .ok (.aload_n 0, 1) := by decide +kernel
theorem dX8_placeBehind_29 : decode cX8_placeBehind 29 = .ok (.getfield 65, 3) := by decide +kernel
theorem dX8_placeBehind_32 : decode cX8_placeBehind 32 = .ok (.getfield 159, 3) := by decide +kernel
theorem dX8_placeBehind_35 : decode cX8_placeBehind 35 = .ok (.aload_n 0, 1) := by decide +kernel
theorem dX8_placeBehind_36 : decode cX8_placeBehind 36 = .ok (.getfield 65, 3) := by decide +kernel
theorem dX8_placeBehind_39 : decode cX8_placeBehind 39 = .ok (.getfield 156, 3) := by decide +kernel
theorem dX8_placeBehind_42 : decode cX8_placeBehind 42 = .ok (.invokevirtual 174, 3) := by decide +kernel
theorem dX8_placeBehind_45 : decode cX8_placeBehind 45 = .ok (.iconst 0, 1) := by decide +kernel
theorem dX8_placeBehind_46 : decode cX8_placeBehind 46 = .ok (.istore 4, 2) := by decide +kernel
theorem dX8_placeBehind_48 : decode cX8_placeBehind 48 = .ok (.iload 4, 2) := by decide +kernel
theorem dX8_placeBehind_50 : decode cX8_placeBehind 50 = .ok (.iload_n 3, 1) := by decide +kernel
theorem dX8_placeBehind_51 : decode cX8_placeBehind 51 = .ok (.if_icmp .ge 28, 3) := by decide +kernel
theorem dX8_placeBehind_54 : decode cX8_placeBehind 54 = .ok (.aload_n 0, 1) := by decide +kernel
theorem dX8_placeBehind_55 : decode cX8_placeBehind 55 = .ok (.aload_n 0, 1) := by decide +kernel
theorem dX8_placeBehind_56 : decode cX8_placeBehind 56 = .ok (.getfield 65, 3) := by decide +kernel
theorem dX8_placeBehind_59 : decode cX8_placeBehind 59 = .ok (.aload_n 0, 1) := by decide +kernel
theorem dX8_placeBehind_60 : decode cX8_placeBehind 60 = .ok (.getfield 75, 3) := by decide +kernel
theorem dX8_placeBehind_63 : decode cX8_placeBehind 63 = .ok (.aload_n 0, 1) := by decide +kernel
theorem dX8_placeBehind_64 : decode cX8_placeBehind 64 = .ok (.getfield 33, 3) := by decide +kernel
theorem dX8_placeBehind_67 : decode cX8_placeBehind 67 = .ok (.getfield 136, 3) := by decide +kernel
theorem dX8_placeBehind_70 : decode cX8_placeBehind 70 = .ok (.invokevirtual 238, 3) := by decide +kernel
theorem dX8_placeBehind_73 : decode cX8_placeBehind 73 = .ok (.iinc 4 1, 3) := by decide +kernel
theorem dX8_placeBehind_76 : decode cX8_placeBehind 76 = .ok (.goto (-28), 3) := by decide +kernel
theorem dX8_placeBehind_79 : decode cX8_placeBehind 79 = .ok (.aload_n 0, 1) := by decide +kernel
theorem dX8_placeBehind_80 : decode cX8_placeBehind 80 = .ok (.getfield 65, 3) := by decide +kernel
theorem dX8_placeBehind_83 : decode cX8_placeBehind 83 = .ok (.getfield 153, 3) := by decide +kernel
theorem dX8_placeBehind_86 : decode cX8_placeBehind 86 = .ok (.ireturn, 1) := by decide +kernel
theorem dX8_sure_0 : decode cX8_sure 0 = .ok (.iconst 0, 1) := by decide +kernel
theorem dX8_sure_1 : decode cX8_sure 1 = .ok (.istore_n 1, 1) := by decide +kernel
theorem dX8_sure_2 : decode cX8_sure 2 = .ok (.iconst 0, 1) := by decide +kernel
theorem dX8_sure_3 : decode cX8_sure 3 = .ok (.istore_n 2, 1) := by decide +kernel
theorem dX8_sure_4 : decode cX8_sure 4 = .ok (.iload_n 2, 1) := by decide +kernel
theorem dX8_sure_5 : decode cX8_sure 5 = .ok (.aload_n 0, 1) := by decide +kernel
theorem dX8_sure_6 : decode cX8_sure 6 = .ok (.getfield 26, 3) := by decide +kernel
theorem dX8_sure_9 : decode cX8_sure 9 = .ok (.getfield 113, 3) := by decide +kernel
theorem dX8_sure_12 : decode cX8_sure 12 = .ok (.if_icmp .ge 82, 3) := by decide +kernel
theorem dX8_sure_15 : decode cX8_sure 15 = .ok (.iconst 1, 1) := by decide +kernel
theorem dX8_sure_16 : decode cX8_sure 16 = .ok (.istore_n 3, 1) := by decide +kernel
theorem dX8_sure_17 : decode cX8_sure 17 = .ok (.iconst 0, 1) := by decide +kernel
theorem dX8_sure_18 : decode cX8_sure 18 = .ok (.istore 4, 2) := by decide +kernel
theorem dX8_sure_20 : decode cX8_sure 20 = .ok (.iload 4, 2) := by decide +kernel
theorem dX8_sure_22 : decode cX8_sure 22 = .ok (.aload_n 0, 1) := by decide +kernel
theorem dX8_sure_23 : decode cX8_sure 23 = .ok (.getfield 26, 3) := by decide +kernel
theorem dX8_sure_26 : decode cX8_sure 26 = .ok (.getfield 225, 3) := by decide +kernel
theorem dX8_sure_29 : decode cX8_sure 29 = .ok (.if_icmp .ge 47, 3) := by decide +kernel
theorem dX8_sure_32 : decode cX8_sure 32 = .ok (.iload_n 3, 1) := by decide +kernel
theorem dX8_sure_33 : decode cX8_sure 33 = .ok (.ifCond .eq 35, 3) := by decide +kernel
theorem dX8_sure_36 : decode cX8_sure 36 = .ok (.aload_n 0, 1) := by decide +kernel
theorem dX8_sure_37 : decode cX8_sure 37 = .ok (.getfield 33, 3) := by decide +kernel
theorem dX8_sure_40 : decode cX8_sure 40 = .ok (.aload_n 0, 1) := by decide +kernel
theorem dX8_sure_41 : decode cX8_sure 41 = .ok (.getfield 26, 3) := by decide +kernel
theorem dX8_sure_44 : decode cX8_sure 44 = .ok (.iload 4, 2) := by decide +kernel
theorem dX8_sure_46 : decode cX8_sure 46 = .ok (.iload_n 2, 1) := by decide +kernel
theorem dX8_sure_47 : decode cX8_sure 47 = .ok (.invokevirtual 129, 3) := by decide +kernel
theorem dX8_sure_50 : decode cX8_sure 50 = .ok (.aload_n 0, 1) := by decide +kernel
theorem dX8_sure_51 : decode cX8_sure 51 = .ok (.getfield 26, 3) := by decide +kernel
theorem dX8_sure_54 : decode cX8_sure 54 = .ok (.getfield 119, 3) := by decide +kernel
theorem dX8_sure_57 : decode cX8_sure 57 = .ok (.iload_n 2, 1) := by decide +kernel
theorem dX8_sure_58 : decode cX8_sure 58 = .ok (.invokevirtual 122, 3) := by decide +kernel
theorem dX8_sure_61 : decode cX8_sure 61 = .ok (.if_icmp .ne 7, 3) := by decide +kernel
theorem dX8_sure_64 : decode cX8_sure 64 = .ok (.iconst 1, 1) := by decide +kernel
theorem dX8_sure_65 : decode cX8_sure 65 = .ok (.goto 4, 3) := by decide +kernel
theorem dX8_sure_68 : decode cX8_sure 68 = .ok (.iconst 0, 1) := by decide +kernel
theorem dX8_sure_69 : decode cX8_sure 69 = .ok (.istore_n 3, 1) := by decide +kernel
theorem dX8_sure_70 : decode cX8_sure 70 = .ok (.iinc 4 1, 3) := by decide +kernel
theorem dX8_sure_73 : decode cX8_sure 73 = .ok (.goto (-53), 3) := by decide +kernel
theorem dX8_sure_76 : decode cX8_sure 76 = .ok (.iload_n 1, 1) := by decide +kernel
theorem dX8_sure_77 : decode cX8_sure 77 = .ok (.iload_n 3, 1) := by decide +kernel
theorem dX8_sure_78 : decode cX8_sure 78 = .ok (.ifCond .eq 7, 3) := by decide +kernel
theorem dX8_sure_81 : decode cX8_sure 81 = .ok (.iconst 1, 1) := by decide +kernel
theorem dX8_sure_82 : decode cX8_sure 82 = .ok (.goto 4, 3) := by decide +kernel
theorem dX8_sure_85 : decode cX8_sure 85 = .ok (.iconst 0, 1) := by decide +kernel
theorem dX8_sure_86 : decode cX8_sure 86 = .ok (.iadd, 1) := by decide +kernel
theorem dX8_sure_87 : decode cX8_sure 87 = .ok (.istore_n 1, 1) := by decide +kernel
theorem dX8_sure_88 : decode cX8_sure 88 = .ok (.iinc 2 1, 3) := by decide +kernel
theorem dX8_sure_91 : decode cX8_sure 91 = .ok (.goto (-87), 3) := by decide +kernel
theorem dX8_sure_94 : decode cX8_sure 94 = .ok (.iload_n 1, 1) := by decide +kernel
theorem dX8_sure_95 : decode cX8_sure 95 = .ok (.ireturn, 1) := by decide +kernel
theorem dX8_toldAllHeard_0 : decode cX8_toldAllHeard 0 = .ok (.iconst 0, 1) := by decide +kernel
theorem dX8_toldAllHeard_1 : decode cX8_toldAllHeard 1 = .ok (.istore_n 2, 1) := by decide +kernel
theorem dX8_toldAllHeard_2 : decode cX8_toldAllHeard 2 = .ok (.iload_n 2, 1) := by decide +kernel
theorem dX8_toldAllHeard_3 : decode cX8_toldAllHeard 3 = .ok (.aload_n 0, 1) := by decide +kernel
theorem dX8_toldAllHeard_4 : decode cX8_toldAllHeard 4 = .ok (.getfield 242, 3) := by decide +kernel
theorem dX8_toldAllHeard_7 : decode cX8_toldAllHeard 7 = .ok (.if_icmp .ge 42, 3) := by decide +kernel
theorem dX8_toldAllHeard_10 : decode cX8_toldAllHeard 10 = .ok (.aload_n 0, 1) := by decide +kernel
theorem dX8_toldAllHeard_11 : decode cX8_toldAllHeard 11 = .ok (.getfield 33, 3) := by decide +kernel
theorem dX8_toldAllHeard_14 : decode cX8_toldAllHeard 14 = .ok (.aload_n 0, 1) := by decide +kernel
theorem dX8_toldAllHeard_15 : decode cX8_toldAllHeard 15 = .ok (.getfield 26, 3) := by decide +kernel
theorem dX8_toldAllHeard_18 : decode cX8_toldAllHeard 18 = .ok (.iload_n 1, 1) := by decide +kernel
theorem dX8_toldAllHeard_19 : decode cX8_toldAllHeard 19 = .ok (.aload_n 0, 1) := by decide +kernel
theorem dX8_toldAllHeard_20 : decode cX8_toldAllHeard 20 = .ok (.getfield 52, 3) := by decide +kernel
theorem dX8_toldAllHeard_23 : decode cX8_toldAllHeard 23 = .ok (.iload_n 2, 1) := by decide +kernel
theorem dX8_toldAllHeard_24 : decode cX8_toldAllHeard 24 = .ok (.invokevirtual 122, 3) := by decide +kernel
theorem dX8_toldAllHeard_27 : decode cX8_toldAllHeard 27 = .ok (.invokevirtual 129, 3) := by decide +kernel
theorem dX8_toldAllHeard_30 : decode cX8_toldAllHeard 30 = .ok (.aload_n 0, 1) := by decide +kernel
theorem dX8_toldAllHeard_31 : decode cX8_toldAllHeard 31 = .ok (.getfield 56, 3) := by decide +kernel
theorem dX8_toldAllHeard_34 : decode cX8_toldAllHeard 34 = .ok (.iload_n 2, 1) := by decide +kernel
theorem dX8_toldAllHeard_35 : decode cX8_toldAllHeard 35 = .ok (.invokevirtual 122, 3) := by decide +kernel
theorem dX8_toldAllHeard_38 : decode cX8_toldAllHeard 38 = .ok (.if_icmp .eq 5, 3) := by decide +kernel
theorem dX8_toldAllHeard_41 : decode cX8_toldAllHeard 41 = .ok (.iconst 0, 1) := by decide +kernel
theorem dX8_toldAllHeard_42 : decode cX8_toldAllHeard 42 = .ok (.ireturn, 1) := by decide +kernel
theorem dX8_toldAllHeard_43 : decode cX8_toldAllHeard 43 = .ok (.iinc 2 1, 3) := by decide +kernel
theorem dX8_toldAllHeard_46 : decode cX8_toldAllHeard 46 = .ok (.goto (-44), 3) := by decide +kernel
theorem dX8_toldAllHeard_49 : decode cX8_toldAllHeard 49 = .ok (.iconst 1, 1) := by decide +kernel
theorem dX8_toldAllHeard_50 : decode cX8_toldAllHeard 50 = .ok (.ireturn, 1) := by decide +kernel
theorem dX8_weightIfThere_0 : decode cX8_weightIfThere 0 = .ok (.aload_n 0, 1) := by decide +kernel
theorem dX8_weightIfThere_1 : decode cX8_weightIfThere 1 = .ok (.getfield 65, 3) := by decide +kernel
theorem dX8_weightIfThere_4 : decode cX8_weightIfThere 4 = .ok (.aload_n 1, 1) := by decide +kernel
theorem dX8_weightIfThere_5 : decode cX8_weightIfThere 5 = .ok (.invokevirtual 212, 3) := by decide +kernel
theorem dX8_weightIfThere_8 : decode cX8_weightIfThere 8 = .ok (.iconst 1, 1) := by decide +kernel
theorem dX8_weightIfThere_9 : decode cX8_weightIfThere 9 = .ok (.istore 5, 2) := by decide +kernel
theorem dX8_weightIfThere_11 : decode cX8_weightIfThere 11 = .ok (.iconst 0, 1) := by decide +kernel
theorem dX8_weightIfThere_12 : decode cX8_weightIfThere 12 = .ok (.istore 6, 2) := by decide +kernel
theorem dX8_weightIfThere_14 : decode cX8_weightIfThere 14 = .ok (.iload 6, 2) := by decide +kernel
theorem dX8_weightIfThere_16 : decode cX8_weightIfThere 16 = .ok (.iload_n 3, 1) := by decide +kernel
theorem dX8_weightIfThere_17 : decode cX8_weightIfThere 17 = .ok (.if_icmp .ge 76, 3) := by decide +kernel
theorem dX8_weightIfThere_20 : decode cX8_weightIfThere 20 = .ok (.iload 5, 2) := by decide +kernel
theorem dX8_weightIfThere_22 : decode cX8_weightIfThere 22 = .ok (.ifCond .le 71, 3) := by decide +kernel
theorem dX8_weightIfThere_25 : decode cX8_weightIfThere 25 = .ok (.iload_n 2, 1) := by decide +kernel
theorem dX8_weightIfThere_26 : decode cX8_weightIfThere 26 = .ok (.iload 6, 2) := by decide +kernel
theorem dX8_weightIfThere_28 : decode cX8_weightIfThere 28 = .ok (.ishr, 1) := by decide +kernel
theorem dX8_weightIfThere_29 : decode cX8_weightIfThere 29 = .ok (.iconst 1, 1) := by decide +kernel
theorem dX8_weightIfThere_30 : decode cX8_weightIfThere 30 = .ok (.iand, 1) := by decide +kernel
theorem dX8_weightIfThere_31 : decode cX8_weightIfThere 31 = .ok (.iconst 1, 1) := by decide +kernel
theorem dX8_weightIfThere_32 : decode cX8_weightIfThere 32 = .ok (.if_icmp .ne 26, 3) := by decide +kernel
theorem dX8_weightIfThere_35 : decode cX8_weightIfThere 35 = .ok (.iload 5, 2) := by decide +kernel
theorem dX8_weightIfThere_37 : decode cX8_weightIfThere 37 = .ok (.iload 4, 2) := by decide +kernel
theorem dX8_weightIfThere_39 : decode cX8_weightIfThere 39 = .ok (.imul, 1) := by decide +kernel
theorem dX8_weightIfThere_40 : decode cX8_weightIfThere 40 = .ok (.istore 5, 2) := by decide +kernel
theorem dX8_weightIfThere_42 : decode cX8_weightIfThere 42 = .ok (.aload_n 0, 1) := by decide +kernel
theorem dX8_weightIfThere_43 : decode cX8_weightIfThere 43 = .ok (.aload_n 0, 1) := by decide +kernel
theorem dX8_weightIfThere_44 : decode cX8_weightIfThere 44 = .ok (.getfield 65, 3) := by decide +kernel
theorem dX8_weightIfThere_47 : decode cX8_weightIfThere 47 = .ok (.aload_n 0, 1) := by decide +kernel
theorem dX8_weightIfThere_48 : decode cX8_weightIfThere 48 = .ok (.getfield 79, 3) := by decide +kernel
theorem dX8_weightIfThere_51 : decode cX8_weightIfThere 51 = .ok (.iconst 3, 1) := by decide +kernel
theorem dX8_weightIfThere_52 : decode cX8_weightIfThere 52 = .ok (.invokevirtual 238, 3) := by decide +kernel
theorem dX8_weightIfThere_55 : decode cX8_weightIfThere 55 = .ok (.goto 32, 3) := by decide +kernel
theorem dX8_weightIfThere_58 : decode cX8_weightIfThere 58 = .ok (.iload 5, 2) := by decide +kernel
theorem dX8_weightIfThere_60 : decode cX8_weightIfThere 60 = .ok (.bipush 10, 2) := by decide +kernel
theorem dX8_weightIfThere_62 : decode cX8_weightIfThere 62 = .ok (.iload 4, 2) := by decide +kernel
theorem dX8_weightIfThere_64 : decode cX8_weightIfThere 64 = .ok (.isub, 1) := by decide +kernel
theorem dX8_weightIfThere_65 : decode cX8_weightIfThere 65 = .ok (.imul, 1) := by decide +kernel
theorem dX8_weightIfThere_66 : decode cX8_weightIfThere 66 = .ok (.istore 5, 2) := by decide +kernel
theorem dX8_weightIfThere_68 : decode cX8_weightIfThere 68 = .ok (.aload_n 0, 1) := by decide +kernel
theorem dX8_weightIfThere_69 : decode cX8_weightIfThere 69 = .ok (.aload_n 0, 1) := by decide +kernel
theorem dX8_weightIfThere_70 : decode cX8_weightIfThere 70 = .ok (.getfield 65, 3) := by decide +kernel
theorem dX8_weightIfThere_73 : decode cX8_weightIfThere 73 = .ok (.aload_n 0, 1) := by decide +kernel
theorem dX8_weightIfThere_74 : decode cX8_weightIfThere 74 = .ok (.getfield 75, 3) := by decide +kernel
theorem dX8_weightIfThere_77 : decode cX8_weightIfThere 77 = .ok (.aload_n 0, 1) := by decide +kernel
theorem dX8_weightIfThere_78 : decode cX8_weightIfThere 78 = .ok (.getfield 33, 3) := by decide +kernel
theorem dX8_weightIfThere_81 : decode cX8_weightIfThere 81 = .ok (.getfield 136, 3) := by decide +kernel
theorem dX8_weightIfThere_84 : decode cX8_weightIfThere 84 = .ok (.invokevirtual 238, 3) := by decide +kernel
theorem dX8_weightIfThere_87 : decode cX8_weightIfThere 87 = .ok (.iinc 6 1, 3) := by decide +kernel
theorem dX8_weightIfThere_90 : decode cX8_weightIfThere 90 = .ok (.goto (-76), 3) := by decide +kernel
theorem dX8_weightIfThere_93 : decode cX8_weightIfThere 93 = .ok (.aload_n 0, 1) := by decide +kernel
theorem dX8_weightIfThere_94 : decode cX8_weightIfThere 94 = .ok (.getfield 65, 3) := by decide +kernel
theorem dX8_weightIfThere_97 : decode cX8_weightIfThere 97 = .ok (.getfield 162, 3) := by decide +kernel
theorem dX8_weightIfThere_100 : decode cX8_weightIfThere 100 = .ok (.iconst 1, 1) := by decide +kernel
theorem dX8_weightIfThere_101 : decode cX8_weightIfThere 101 = .ok (.if_icmp .ne 8, 3) := by decide +kernel
theorem dX8_weightIfThere_104 : decode cX8_weightIfThere 104 = .ok (.iload 5, 2) := by decide +kernel
theorem dX8_weightIfThere_106 : decode cX8_weightIfThere 106 = .ok (.goto 4, 3) := by decide +kernel
theorem dX8_weightIfThere_109 : decode cX8_weightIfThere 109 = .ok (.iconst 0, 1) := by decide +kernel
theorem dX8_weightIfThere_110 : decode cX8_weightIfThere 110 = .ok (.ireturn, 1) := by decide +kernel
theorem dX8_drawOf_0 : decode cX8_drawOf 0 = .ok (.ldc2_w 311, 3) := by decide +kernel
theorem dX8_drawOf_3 : decode cX8_drawOf 3 = .ok (.iload_n 0, 1) := by decide +kernel
theorem dX8_drawOf_4 : decode cX8_drawOf 4 = .ok (.i2l, 1) := by decide +kernel
theorem dX8_drawOf_5 : decode cX8_drawOf 5 = .ok (.lmul, 1) := by decide +kernel
theorem dX8_drawOf_6 : decode cX8_drawOf 6 = .ok (.ldc2_w 313, 3) := by decide +kernel
theorem dX8_drawOf_9 : decode cX8_drawOf 9 = .ok (.iload_n 1, 1) := by decide +kernel
theorem dX8_drawOf_10 : decode cX8_drawOf 10 = .ok (.i2l, 1) := by decide +kernel
theorem dX8_drawOf_11 : decode cX8_drawOf 11 = .ok (.lmul, 1) := by decide +kernel
theorem dX8_drawOf_12 : decode cX8_drawOf 12 = .ok (.ladd, 1) := by decide +kernel
theorem dX8_drawOf_13 : decode cX8_drawOf 13 = .ok (.lconst 1, 1) := by decide +kernel
theorem dX8_drawOf_14 : decode cX8_drawOf 14 = .ok (.ladd, 1) := by decide +kernel
theorem dX8_drawOf_15 : decode cX8_drawOf 15 = .ok (.lstore_n 2, 1) := by decide +kernel
theorem dX8_drawOf_16 : decode cX8_drawOf 16 = .ok (.lload_n 2, 1) := by decide +kernel
theorem dX8_drawOf_17 : decode cX8_drawOf 17 = .ok (.lload_n 2, 1) := by decide +kernel
theorem dX8_drawOf_18 : decode cX8_drawOf 18 = .ok (.lmul, 1) := by decide +kernel
theorem dX8_drawOf_19 : decode cX8_drawOf 19 = .ok (.ldc2_w 315, 3) := by decide +kernel
theorem dX8_drawOf_22 : decode cX8_drawOf 22 = .ok (.lrem, 1) := by decide +kernel
theorem dX8_drawOf_23 : decode cX8_drawOf 23 = .ok (.l2i, 1) := by decide +kernel
theorem dX8_drawOf_24 : decode cX8_drawOf 24 = .ok (.ireturn, 1) := by decide +kernel
theorem dX8_stir_0 : decode cX8_stir 0 = .ok (.iload_n 2, 1) := by decide +kernel
theorem dX8_stir_1 : decode cX8_stir 1 = .ok (.bipush 8, 2) := by decide +kernel
theorem dX8_stir_3 : decode cX8_stir 3 = .ok (.idiv, 1) := by decide +kernel
theorem dX8_stir_4 : decode cX8_stir 4 = .ok (.istore_n 3, 1) := by decide +kernel
theorem dX8_stir_5 : decode cX8_stir 5 = .ok (.iload_n 2, 1) := by decide +kernel
theorem dX8_stir_6 : decode cX8_stir 6 = .ok (.bipush 32, 2) := by decide +kernel
theorem dX8_stir_8 : decode cX8_stir 8 = .ok (.idiv, 1) := by decide +kernel
theorem dX8_stir_9 : decode cX8_stir 9 = .ok (.aload_n 0, 1) := by decide +kernel
theorem dX8_stir_10 : decode cX8_stir 10 = .ok (.getfield 26, 3) := by decide +kernel
theorem dX8_stir_13 : decode cX8_stir 13 = .ok (.getfield 113, 3) := by decide +kernel
theorem dX8_stir_16 : decode cX8_stir 16 = .ok (.invokestatic 317, 3) := by decide +kernel
theorem dX8_stir_19 : decode cX8_stir 19 = .ok (.istore 4, 2) := by decide +kernel
theorem dX8_stir_21 : decode cX8_stir 21 = .ok (.iload_n 2, 1) := by decide +kernel
theorem dX8_stir_22 : decode cX8_stir 22 = .ok (.bipush 8, 2) := by decide +kernel
theorem dX8_stir_24 : decode cX8_stir 24 = .ok (.irem, 1) := by decide +kernel
theorem dX8_stir_25 : decode cX8_stir 25 = .ok (.tableswitch 85 0 2 #[27, 37, 64], 27) := by decide +kernel
theorem dX8_stir_52 : decode cX8_stir 52 = .ok (.aload_n 1, 1) := by decide +kernel
theorem dX8_stir_53 : decode cX8_stir 53 = .ok (.iload_n 3, 1) := by decide +kernel
theorem dX8_stir_54 : decode cX8_stir 54 = .ok (.iconst 4, 1) := by decide +kernel
theorem dX8_stir_55 : decode cX8_stir 55 = .ok (.irem, 1) := by decide +kernel
theorem dX8_stir_56 : decode cX8_stir 56 = .ok (.putfield 136, 3) := by decide +kernel
theorem dX8_stir_59 : decode cX8_stir 59 = .ok (.goto 51, 3) := by decide +kernel
theorem dX8_stir_62 : decode cX8_stir 62 = .ok (.aload_n 1, 1) := by decide +kernel
theorem dX8_stir_63 : decode cX8_stir 63 = .ok (.iload_n 3, 1) := by decide +kernel
theorem dX8_stir_64 : decode cX8_stir 64 = .ok (.aload_n 0, 1) := by decide +kernel
theorem dX8_stir_65 : decode cX8_stir 65 = .ok (.getfield 26, 3) := by decide +kernel
theorem dX8_stir_68 : decode cX8_stir 68 = .ok (.getfield 225, 3) := by decide +kernel
theorem dX8_stir_71 : decode cX8_stir 71 = .ok (.invokestatic 317, 3) := by decide +kernel
theorem dX8_stir_74 : decode cX8_stir 74 = .ok (.iload 4, 2) := by decide +kernel
theorem dX8_stir_76 : decode cX8_stir 76 = .ok (.iload_n 2, 1) := by decide +kernel
theorem dX8_stir_77 : decode cX8_stir 77 = .ok (.sipush 2048, 3) := by decide +kernel
theorem dX8_stir_80 : decode cX8_stir 80 = .ok (.idiv, 1) := by decide +kernel
theorem dX8_stir_81 : decode cX8_stir 81 = .ok (.iconst 4, 1) := by decide +kernel
theorem dX8_stir_82 : decode cX8_stir 82 = .ok (.irem, 1) := by decide +kernel
theorem dX8_stir_83 : decode cX8_stir 83 = .ok (.invokevirtual 198, 3) := by decide +kernel
theorem dX8_stir_86 : decode cX8_stir 86 = .ok (.goto 24, 3) := by decide +kernel
theorem dX8_stir_89 : decode cX8_stir 89 = .ok (.aload_n 0, 1) := by decide +kernel
theorem dX8_stir_90 : decode cX8_stir 90 = .ok (.aload_n 1, 1) := by decide +kernel
theorem dX8_stir_91 : decode cX8_stir 91 = .ok (.iload_n 3, 1) := by decide +kernel
theorem dX8_stir_92 : decode cX8_stir 92 = .ok (.aload_n 0, 1) := by decide +kernel
theorem dX8_stir_93 : decode cX8_stir 93 = .ok (.getfield 26, 3) := by decide +kernel
theorem dX8_stir_96 : decode cX8_stir 96 = .ok (.getfield 279, 3) := by decide +kernel
theorem dX8_stir_99 : decode cX8_stir 99 = .ok (.invokestatic 317, 3) := by decide +kernel
theorem dX8_stir_102 : decode cX8_stir 102 = .ok (.iload 4, 2) := by decide +kernel
theorem dX8_stir_104 : decode cX8_stir 104 = .ok (.invokevirtual 320, 3) := by decide +kernel
theorem dX8_stir_107 : decode cX8_stir 107 = .ok (.goto 3, 3) := by decide +kernel
theorem dX8_stir_110 : decode cX8_stir 110 = .ok (.return_, 1) := by decide +kernel
theorem dX8_sendIfHeCan_0 : decode cX8_sendIfHeCan 0 = .ok (.aload_n 0, 1) := by decide +kernel
theorem dX8_sendIfHeCan_1 : decode cX8_sendIfHeCan 1 = .ok (.getfield 26, 3) := by decide +kernel
theorem dX8_sendIfHeCan_4 : decode cX8_sendIfHeCan 4 = .ok (.iload_n 2, 1) := by decide +kernel
theorem dX8_sendIfHeCan_5 : decode cX8_sendIfHeCan 5 = .ok (.invokevirtual 146, 3) := by decide +kernel
theorem dX8_sendIfHeCan_8 : decode cX8_sendIfHeCan 8 = .ok (.ifCond .eq 24, 3) := by decide +kernel
theorem dX8_sendIfHeCan_11 : decode cX8_sendIfHeCan 11 = .ok (.aload_n 1, 1) := by decide +kernel
theorem dX8_sendIfHeCan_12 : decode cX8_sendIfHeCan 12 = .ok (.iload_n 2, 1) := by decide +kernel
theorem dX8_sendIfHeCan_13 : decode cX8_sendIfHeCan 13 = .ok (.invokevirtual 149, 3) := by decide +kernel
theorem dX8_sendIfHeCan_16 : decode cX8_sendIfHeCan 16 = .ok (.getfield 162, 3) := by decide +kernel
theorem dX8_sendIfHeCan_19 : decode cX8_sendIfHeCan 19 = .ok (.iconst 2, 1) := by decide +kernel
theorem dX8_sendIfHeCan_20 : decode cX8_sendIfHeCan 20 = .ok (.if_icmp .eq 12, 3) := by decide +kernel
theorem dX8_sendIfHeCan_23 : decode cX8_sendIfHeCan 23 = .ok (.aload_n 1, 1) := by decide +kernel
theorem dX8_sendIfHeCan_24 : decode cX8_sendIfHeCan 24 = .ok (.iload_n 2, 1) := by decide +kernel
theorem dX8_sendIfHeCan_25 : decode cX8_sendIfHeCan 25 = .ok (.invokevirtual 149, 3) := by decide +kernel
theorem dX8_sendIfHeCan_28 : decode cX8_sendIfHeCan 28 = .ok (.iload_n 3, 1) := by decide +kernel
theorem dX8_sendIfHeCan_29 : decode cX8_sendIfHeCan 29 = .ok (.invokevirtual 202, 3) := by decide +kernel
theorem dX8_sendIfHeCan_32 : decode cX8_sendIfHeCan 32 = .ok (.return_, 1) := by decide +kernel
