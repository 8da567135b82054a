/-! decode rows (printed by TURN) -/
theorem dX8_loudest_2 : decode cX8_loudest 2 = .ok (.iconst 0, 1) := by decide +kernel
theorem dX8_loudest_3 : decode cX8_loudest 3 = .ok (.istore_n 2, 1) := by decide +kernel
theorem dX8_loudest_4 : decode cX8_loudest 4 = .ok (.iload_n 2, 1) := by decide +kernel
theorem dX8_loudest_5 : decode cX8_loudest 5 = .ok (.iconst 4, 1) := by decide +kernel
theorem dX8_loudest_6 : decode cX8_loudest 6 = .ok (.if_icmp .ge 55, 3) := by decide +kernel
theorem dX8_loudest_9 : decode cX8_loudest 9 = .ok (.aload_n 0, 1) := by decide +kernel
theorem dX8_loudest_10 : decode cX8_loudest 10 = .ok (.getfield 10, 3) := by decide +kernel
theorem dX8_loudest_13 : decode cX8_loudest 13 = .ok (.iload_n 2, 1) := by decide +kernel
theorem dX8_loudest_14 : decode cX8_loudest 14 = .ok (.invokevirtual 80, 3) := by decide +kernel
theorem dX8_loudest_17 : decode cX8_loudest 17 = .ok (.ifCond .eq 38, 3) := by decide +kernel
theorem dX8_loudest_20 : decode cX8_loudest 20 = .ok (.aload_n 0, 1) := by decide +kernel
theorem dX8_loudest_21 : decode cX8_loudest 21 = .ok (.getfield 10, 3) := by decide +kernel
theorem dX8_loudest_24 : decode cX8_loudest 24 = .ok (.iload_n 2, 1) := by decide +kernel
theorem dX8_loudest_25 : decode cX8_loudest 25 = .ok (.invokevirtual 72, 3) := by decide +kernel
theorem dX8_loudest_28 : decode cX8_loudest 28 = .ok (.ifCond .ne 27, 3) := by decide +kernel
theorem dX8_loudest_31 : decode cX8_loudest 31 = .ok (.iload_n 1, 1) := by decide +kernel
theorem dX8_loudest_32 : decode cX8_loudest 32 = .ok (.aload_n 0, 1) := by decide +kernel
theorem dX8_loudest_33 : decode cX8_loudest 33 = .ok (.getfield 10, 3) := by decide +kernel
theorem dX8_loudest_36 : decode cX8_loudest 36 = .ok (.iload_n 2, 1) := by decide +kernel
theorem dX8_loudest_37 : decode cX8_loudest 37 = .ok (.invokevirtual 91, 3) := by decide +kernel
theorem dX8_loudest_40 : decode cX8_loudest 40 = .ok (.aload_n 0, 1) := by decide +kernel
theorem dX8_loudest_41 : decode cX8_loudest 41 = .ok (.getfield 10, 3) := by decide +kernel
theorem dX8_loudest_44 : decode cX8_loudest 44 = .ok (.getfield 198, 3) := by decide +kernel
theorem dX8_loudest_47 : decode cX8_loudest 47 = .ok (.invokestatic 201, 3) := by decide +kernel
theorem dX8_loudest_50 : decode cX8_loudest 50 = .ok (.invokestatic 193, 3) := by decide +kernel
theorem dX8_loudest_53 : decode cX8_loudest 53 = .ok (.iadd, 1) := by decide +kernel
theorem dX8_loudest_54 : decode cX8_loudest 54 = .ok (.istore_n 1, 1) := by decide +kernel
theorem dX8_loudest_55 : decode cX8_loudest 55 = .ok (.iinc 2 1, 3) := by decide +kernel
theorem dX8_loudest_58 : decode cX8_loudest 58 = .ok (.goto (-54), 3) := by decide +kernel
theorem dX8_loudest_61 : decode cX8_loudest 61 = .ok (.iload_n 1, 1) := by decide +kernel
theorem dX8_loudest_62 : decode cX8_loudest 62 = .ok (.ireturn, 1) := by decide +kernel
theorem dX8_safeGain_0 : decode cX8_safeGain 0 = .ok (.iload_n 1, 1) := by decide +kernel
theorem dX8_safeGain_1 : decode cX8_safeGain 1 = .ok (.iconst 1, 1) := by decide +kernel
theorem dX8_safeGain_2 : decode cX8_safeGain 2 = .ok (.sipush 200, 3) := by decide +kernel
theorem dX8_safeGain_5 : decode cX8_safeGain 5 = .ok (.invokestatic 140, 3) := by decide +kernel
theorem dX8_safeGain_8 : decode cX8_safeGain 8 = .ok (.ifCond .eq 14, 3) := by decide +kernel
theorem dX8_safeGain_11 : decode cX8_safeGain 11 = .ok (.iload_n 2, 1) := by decide +kernel
theorem dX8_safeGain_12 : decode cX8_safeGain 12 = .ok (.iconst 0, 1) := by decide +kernel
theorem dX8_safeGain_13 : decode cX8_safeGain 13 = .ok (.sipush 20000, 3) := by decide +kernel
theorem dX8_safeGain_16 : decode cX8_safeGain 16 = .ok (.invokestatic 140, 3) := by decide +kernel
theorem dX8_safeGain_19 : decode cX8_safeGain 19 = .ok (.ifCond .ne 6, 3) := by decide +kernel
theorem dX8_safeGain_22 : decode cX8_safeGain 22 = .ok (.ldc 79, 2) := by decide +kernel
theorem dX8_safeGain_24 : decode cX8_safeGain 24 = .ok (.ireturn, 1) := by decide +kernel
theorem dX8_safeGain_25 : decode cX8_safeGain 25 = .ok (.aload_n 0, 1) := by decide +kernel
theorem dX8_safeGain_26 : decode cX8_safeGain 26 = .ok (.getfield 16, 3) := by decide +kernel
theorem dX8_safeGain_29 : decode cX8_safeGain 29 = .ok (.aload_n 0, 1) := by decide +kernel
theorem dX8_safeGain_30 : decode cX8_safeGain 30 = .ok (.getfield 10, 3) := by decide +kernel
theorem dX8_safeGain_33 : decode cX8_safeGain 33 = .ok (.invokevirtual 181, 3) := by decide +kernel
theorem dX8_safeGain_36 : decode cX8_safeGain 36 = .ok (.iconst 0, 1) := by decide +kernel
theorem dX8_safeGain_37 : decode cX8_safeGain 37 = .ok (.istore_n 3, 1) := by decide +kernel
theorem dX8_safeGain_38 : decode cX8_safeGain 38 = .ok (.sipush 950, 3) := by decide +kernel
theorem dX8_safeGain_41 : decode cX8_safeGain 41 = .ok (.istore 4, 2) := by decide +kernel
theorem dX8_safeGain_43 : decode cX8_safeGain 43 = .ok (.iconst 0, 1) := by decide +kernel
theorem dX8_safeGain_44 : decode cX8_safeGain 44 = .ok (.istore 5, 2) := by decide +kernel
theorem dX8_safeGain_46 : decode cX8_safeGain 46 = .ok (.iload 5, 2) := by decide +kernel
theorem dX8_safeGain_48 : decode cX8_safeGain 48 = .ok (.sipush 950, 3) := by decide +kernel
theorem dX8_safeGain_51 : decode cX8_safeGain 51 = .ok (.if_icmp .gt 48, 3) := by decide +kernel
theorem dX8_safeGain_54 : decode cX8_safeGain 54 = .ok (.iload_n 3, 1) := by decide +kernel
theorem dX8_safeGain_55 : decode cX8_safeGain 55 = .ok (.iload 4, 2) := by decide +kernel
theorem dX8_safeGain_57 : decode cX8_safeGain 57 = .ok (.if_icmp .ge 42, 3) := by decide +kernel
theorem dX8_safeGain_60 : decode cX8_safeGain 60 = .ok (.iload_n 3, 1) := by decide +kernel
theorem dX8_safeGain_61 : decode cX8_safeGain 61 = .ok (.iload 4, 2) := by decide +kernel
theorem dX8_safeGain_63 : decode cX8_safeGain 63 = .ok (.iadd, 1) := by decide +kernel
theorem dX8_safeGain_64 : decode cX8_safeGain 64 = .ok (.iconst 1, 1) := by decide +kernel
theorem dX8_safeGain_65 : decode cX8_safeGain 65 = .ok (.iadd, 1) := by decide +kernel
theorem dX8_safeGain_66 : decode cX8_safeGain 66 = .ok (.iconst 2, 1) := by decide +kernel
theorem dX8_safeGain_67 : decode cX8_safeGain 67 = .ok (.idiv, 1) := by decide +kernel
theorem dX8_safeGain_68 : decode cX8_safeGain 68 = .ok (.istore 6, 2) := by decide +kernel
theorem dX8_safeGain_70 : decode cX8_safeGain 70 = .ok (.aload_n 0, 1) := by decide +kernel
theorem dX8_safeGain_71 : decode cX8_safeGain 71 = .ok (.iload 6, 2) := by decide +kernel
theorem dX8_safeGain_73 : decode cX8_safeGain 73 = .ok (.iload_n 1, 1) := by decide +kernel
theorem dX8_safeGain_74 : decode cX8_safeGain 74 = .ok (.iload_n 2, 1) := by decide +kernel
theorem dX8_safeGain_75 : decode cX8_safeGain 75 = .ok (.invokevirtual 204, 3) := by decide +kernel
theorem dX8_safeGain_78 : decode cX8_safeGain 78 = .ok (.ifCond .eq 9, 3) := by decide +kernel
theorem dX8_safeGain_81 : decode cX8_safeGain 81 = .ok (.iload 6, 2) := by decide +kernel
theorem dX8_safeGain_83 : decode cX8_safeGain 83 = .ok (.istore_n 3, 1) := by decide +kernel
theorem dX8_safeGain_84 : decode cX8_safeGain 84 = .ok (.goto 9, 3) := by decide +kernel
theorem dX8_safeGain_87 : decode cX8_safeGain 87 = .ok (.iload 6, 2) := by decide +kernel
theorem dX8_safeGain_89 : decode cX8_safeGain 89 = .ok (.iconst 1, 1) := by decide +kernel
theorem dX8_safeGain_90 : decode cX8_safeGain 90 = .ok (.isub, 1) := by decide +kernel
theorem dX8_safeGain_91 : decode cX8_safeGain 91 = .ok (.istore 4, 2) := by decide +kernel
theorem dX8_safeGain_93 : decode cX8_safeGain 93 = .ok (.iinc 5 1, 3) := by decide +kernel
theorem dX8_safeGain_96 : decode cX8_safeGain 96 = .ok (.goto (-50), 3) := by decide +kernel
theorem dX8_safeGain_99 : decode cX8_safeGain 99 = .ok (.iload_n 3, 1) := by decide +kernel
theorem dX8_safeGain_100 : decode cX8_safeGain 100 = .ok (.ireturn, 1) := by decide +kernel
theorem dX8_count_0 : decode cX8_count 0 = .ok (.iload_n 1, 1) := by decide +kernel
theorem dX8_count_1 : decode cX8_count 1 = .ok (.tableswitch 195 0 21 #[103, 114, 122, 127, 132, 143, 155, 163, 171, 195, 195, 195, 195, 195, 195, 195, 195, 195, 195, 195, 179, 187], 103) := by decide +kernel
theorem dX8_count_104 : decode cX8_count 104 = .ok (.aload_n 0, 1) := by decide +kernel
theorem dX8_count_105 : decode cX8_count 105 = .ok (.getfield 10, 3) := by decide +kernel
theorem dX8_count_108 : decode cX8_count 108 = .ok (.getfield 105, 3) := by decide +kernel
theorem dX8_count_111 : decode cX8_count 111 = .ok (.getfield 109, 3) := by decide +kernel
theorem dX8_count_114 : decode cX8_count 114 = .ok (.ireturn, 1) := by decide +kernel
theorem dX8_count_115 : decode cX8_count 115 = .ok (.aload_n 0, 1) := by decide +kernel
theorem dX8_count_116 : decode cX8_count 116 = .ok (.getfield 10, 3) := by decide +kernel
theorem dX8_count_119 : decode cX8_count 119 = .ok (.invokevirtual 94, 3) := by decide +kernel
theorem dX8_count_122 : decode cX8_count 122 = .ok (.ireturn, 1) := by decide +kernel
theorem dX8_count_123 : decode cX8_count 123 = .ok (.aload_n 0, 1) := by decide +kernel
theorem dX8_count_124 : decode cX8_count 124 = .ok (.invokevirtual 207, 3) := by decide +kernel
theorem dX8_count_127 : decode cX8_count 127 = .ok (.ireturn, 1) := by decide +kernel
theorem dX8_count_128 : decode cX8_count 128 = .ok (.aload_n 0, 1) := by decide +kernel
theorem dX8_count_129 : decode cX8_count 129 = .ok (.invokevirtual 210, 3) := by decide +kernel
theorem dX8_count_132 : decode cX8_count 132 = .ok (.ireturn, 1) := by decide +kernel
theorem dX8_count_133 : decode cX8_count 133 = .ok (.aload_n 0, 1) := by decide +kernel
theorem dX8_count_134 : decode cX8_count 134 = .ok (.getfield 10, 3) := by decide +kernel
theorem dX8_count_137 : decode cX8_count 137 = .ok (.getfield 105, 3) := by decide +kernel
theorem dX8_count_140 : decode cX8_count 140 = .ok (.invokevirtual 213, 3) := by decide +kernel
theorem dX8_count_143 : decode cX8_count 143 = .ok (.ireturn, 1) := by decide +kernel
theorem dX8_count_144 : decode cX8_count 144 = .ok (.aload_n 0, 1) := by decide +kernel
theorem dX8_count_145 : decode cX8_count 145 = .ok (.getfield 10, 3) := by decide +kernel
theorem dX8_count_148 : decode cX8_count 148 = .ok (.getfield 105, 3) := by decide +kernel
theorem dX8_count_151 : decode cX8_count 151 = .ok (.iconst 0, 1) := by decide +kernel
theorem dX8_count_152 : decode cX8_count 152 = .ok (.invokevirtual 187, 3) := by decide +kernel
theorem dX8_count_155 : decode cX8_count 155 = .ok (.ireturn, 1) := by decide +kernel
theorem dX8_count_156 : decode cX8_count 156 = .ok (.aload_n 0, 1) := by decide +kernel
theorem dX8_count_157 : decode cX8_count 157 = .ok (.getfield 10, 3) := by decide +kernel
theorem dX8_count_160 : decode cX8_count 160 = .ok (.getfield 216, 3) := by decide +kernel
theorem dX8_count_163 : decode cX8_count 163 = .ok (.ireturn, 1) := by decide +kernel
theorem dX8_count_164 : decode cX8_count 164 = .ok (.aload_n 0, 1) := by decide +kernel
theorem dX8_count_165 : decode cX8_count 165 = .ok (.getfield 22, 3) := by decide +kernel
theorem dX8_count_168 : decode cX8_count 168 = .ok (.getfield 219, 3) := by decide +kernel
theorem dX8_count_171 : decode cX8_count 171 = .ok (.ireturn, 1) := by decide +kernel
theorem dX8_count_172 : decode cX8_count 172 = .ok (.aload_n 0, 1) := by decide +kernel
theorem dX8_count_173 : decode cX8_count 173 = .ok (.getfield 29, 3) := by decide +kernel
theorem dX8_count_176 : decode cX8_count 176 = .ok (.getfield 220, 3) := by decide +kernel
theorem dX8_count_179 : decode cX8_count 179 = .ok (.ireturn, 1) := by decide +kernel
theorem dX8_count_180 : decode cX8_count 180 = .ok (.aload_n 0, 1) := by decide +kernel
theorem dX8_count_181 : decode cX8_count 181 = .ok (.getfield 10, 3) := by decide +kernel
theorem dX8_count_184 : decode cX8_count 184 = .ok (.getfield 198, 3) := by decide +kernel
theorem dX8_count_187 : decode cX8_count 187 = .ok (.ireturn, 1) := by decide +kernel
theorem dX8_count_188 : decode cX8_count 188 = .ok (.aload_n 0, 1) := by decide +kernel
theorem dX8_count_189 : decode cX8_count 189 = .ok (.getfield 10, 3) := by decide +kernel
theorem dX8_count_192 : decode cX8_count 192 = .ok (.getfield 221, 3) := by decide +kernel
theorem dX8_count_195 : decode cX8_count 195 = .ok (.ireturn, 1) := by decide +kernel
theorem dX8_count_196 : decode cX8_count 196 = .ok (.ldc 79, 2) := by decide +kernel
theorem dX8_count_198 : decode cX8_count 198 = .ok (.ireturn, 1) := by decide +kernel
theorem dX8_undo_0 : decode cX8_undo 0 = .ok (.aload_n 0, 1) := by decide +kernel
theorem dX8_undo_1 : decode cX8_undo 1 = .ok (.getfield 22, 3) := by decide +kernel
theorem dX8_undo_4 : decode cX8_undo 4 = .ok (.getfield 219, 3) := by decide +kernel
theorem dX8_undo_7 : decode cX8_undo 7 = .ok (.ifCond .ne 6, 3) := by decide +kernel
theorem dX8_undo_10 : decode cX8_undo 10 = .ok (.ldc 83, 2) := by decide +kernel
theorem dX8_undo_12 : decode cX8_undo 12 = .ok (.ireturn, 1) := by decide +kernel
theorem dX8_undo_13 : decode cX8_undo 13 = .ok (.aload_n 0, 1) := by decide +kernel
theorem dX8_undo_14 : decode cX8_undo 14 = .ok (.getfield 22, 3) := by decide +kernel
theorem dX8_undo_17 : decode cX8_undo 17 = .ok (.aload_n 0, 1) := by decide +kernel
theorem dX8_undo_18 : decode cX8_undo 18 = .ok (.getfield 10, 3) := by decide +kernel
theorem dX8_undo_21 : decode cX8_undo 21 = .ok (.invokevirtual 224, 3) := by decide +kernel
theorem dX8_undo_24 : decode cX8_undo 24 = .ok (.aload_n 0, 1) := by decide +kernel
theorem dX8_undo_25 : decode cX8_undo 25 = .ok (.getfield 22, 3) := by decide +kernel
theorem dX8_undo_28 : decode cX8_undo 28 = .ok (.getfield 219, 3) := by decide +kernel
theorem dX8_undo_31 : decode cX8_undo 31 = .ok (.ireturn, 1) := by decide +kernel
theorem dX8_type_0 : decode cX8_type 0 = .ok (.iload_n 1, 1) := by decide +kernel
theorem dX8_type_1 : decode cX8_type 1 = .ok (.bipush 32, 2) := by decide +kernel
theorem dX8_type_3 : decode cX8_type 3 = .ok (.bipush 126, 2) := by decide +kernel
theorem dX8_type_5 : decode cX8_type 5 = .ok (.invokestatic 140, 3) := by decide +kernel
theorem dX8_type_8 : decode cX8_type 8 = .ok (.ifCond .ne 6, 3) := by decide +kernel
theorem dX8_type_11 : decode cX8_type 11 = .ok (.ldc 79, 2) := by decide +kernel
theorem dX8_type_13 : decode cX8_type 13 = .ok (.ireturn, 1) := by decide +kernel
theorem dX8_type_14 : decode cX8_type 14 = .ok (.aload_n 0, 1) := by decide +kernel
theorem dX8_type_15 : decode cX8_type 15 = .ok (.getfield 29, 3) := by decide +kernel
theorem dX8_type_18 : decode cX8_type 18 = .ok (.getfield 220, 3) := by decide +kernel
theorem dX8_type_21 : decode cX8_type 21 = .ok (.bipush 60, 2) := by decide +kernel
theorem dX8_type_23 : decode cX8_type 23 = .ok (.if_icmp .lt 6, 3) := by decide +kernel
theorem dX8_type_26 : decode cX8_type 26 = .ok (.ldc 227, 2) := by decide +kernel
theorem dX8_type_28 : decode cX8_type 28 = .ok (.ireturn, 1) := by decide +kernel
theorem dX8_type_29 : decode cX8_type 29 = .ok (.aload_n 0, 1) := by decide +kernel
theorem dX8_type_30 : decode cX8_type 30 = .ok (.getfield 29, 3) := by decide +kernel
theorem dX8_type_33 : decode cX8_type 33 = .ok (.iload_n 1, 1) := by decide +kernel
theorem dX8_type_34 : decode cX8_type 34 = .ok (.invokevirtual 228, 3) := by decide +kernel
theorem dX8_type_37 : decode cX8_type 37 = .ok (.aload_n 0, 1) := by decide +kernel
theorem dX8_type_38 : decode cX8_type 38 = .ok (.getfield 29, 3) := by decide +kernel
theorem dX8_type_41 : decode cX8_type 41 = .ok (.getfield 220, 3) := by decide +kernel
theorem dX8_type_44 : decode cX8_type 44 = .ok (.ireturn, 1) := by decide +kernel
theorem dX8_clearText_0 : decode cX8_clearText 0 = .ok (.aload_n 0, 1) := by decide +kernel
theorem dX8_clearText_1 : decode cX8_clearText 1 = .ok (.getfield 29, 3) := by decide +kernel
theorem dX8_clearText_4 : decode cX8_clearText 4 = .ok (.getfield 220, 3) := by decide +kernel
theorem dX8_clearText_7 : decode cX8_clearText 7 = .ok (.istore_n 1, 1) := by decide +kernel
theorem dX8_clearText_8 : decode cX8_clearText 8 = .ok (.aload_n 0, 1) := by decide +kernel
theorem dX8_clearText_9 : decode cX8_clearText 9 = .ok (.getfield 29, 3) := by decide +kernel
theorem dX8_clearText_12 : decode cX8_clearText 12 = .ok (.iconst 0, 1) := by decide +kernel
theorem dX8_clearText_13 : decode cX8_clearText 13 = .ok (.putfield 220, 3) := by decide +kernel
theorem dX8_clearText_16 : decode cX8_clearText 16 = .ok (.iload_n 1, 1) := by decide +kernel
theorem dX8_clearText_17 : decode cX8_clearText 17 = .ok (.ireturn, 1) := by decide +kernel
theorem dX8_fault_0 : decode cX8_fault 0 = .ok (.iload_n 1, 1) := by decide +kernel
theorem dX8_fault_1 : decode cX8_fault 1 = .ok (.iconst 0, 1) := by decide +kernel
theorem dX8_fault_2 : decode cX8_fault 2 = .ok (.iconst 2, 1) := by decide +kernel
theorem dX8_fault_3 : decode cX8_fault 3 = .ok (.invokestatic 140, 3) := by decide +kernel
theorem dX8_fault_6 : decode cX8_fault 6 = .ok (.ifCond .ne 6, 3) := by decide +kernel
theorem dX8_fault_9 : decode cX8_fault 9 = .ok (.ldc 79, 2) := by decide +kernel
theorem dX8_fault_11 : decode cX8_fault 11 = .ok (.ireturn, 1) := by decide +kernel
theorem dX8_fault_12 : decode cX8_fault 12 = .ok (.aload_n 0, 1) := by decide +kernel
theorem dX8_fault_13 : decode cX8_fault 13 = .ok (.invokevirtual 231, 3) := by decide +kernel
theorem dX8_fault_16 : decode cX8_fault 16 = .ok (.aload_n 0, 1) := by decide +kernel
theorem dX8_fault_17 : decode cX8_fault 17 = .ok (.getfield 43, 3) := by decide +kernel
theorem dX8_fault_20 : decode cX8_fault 20 = .ok (.getfield 234, 3) := by decide +kernel
theorem dX8_fault_23 : decode cX8_fault 23 = .ok (.ifCond .ne 6, 3) := by decide +kernel
theorem dX8_fault_26 : decode cX8_fault 26 = .ok (.ldc 144, 2) := by decide +kernel
theorem dX8_fault_28 : decode cX8_fault 28 = .ok (.ireturn, 1) := by decide +kernel
theorem dX8_fault_29 : decode cX8_fault 29 = .ok (.iload_n 1, 1) := by decide +kernel
theorem dX8_fault_30 : decode cX8_fault 30 = .ok (.ifCond .ne 11, 3) := by decide +kernel
theorem dX8_fault_33 : decode cX8_fault 33 = .ok (.aload_n 0, 1) := by decide +kernel
theorem dX8_fault_34 : decode cX8_fault 34 = .ok (.getfield 43, 3) := by decide +kernel
theorem dX8_fault_37 : decode cX8_fault 37 = .ok (.getfield 238, 3) := by decide +kernel
theorem dX8_fault_40 : decode cX8_fault 40 = .ok (.ireturn, 1) := by decide +kernel
theorem dX8_fault_41 : decode cX8_fault 41 = .ok (.iload_n 1, 1) := by decide +kernel
theorem dX8_fault_42 : decode cX8_fault 42 = .ok (.iconst 1, 1) := by decide +kernel
theorem dX8_fault_43 : decode cX8_fault 43 = .ok (.if_icmp .ne 13, 3) := by decide +kernel
theorem dX8_fault_46 : decode cX8_fault 46 = .ok (.aload_n 0, 1) := by decide +kernel
theorem dX8_fault_47 : decode cX8_fault 47 = .ok (.getfield 43, 3) := by decide +kernel
theorem dX8_fault_50 : decode cX8_fault 50 = .ok (.getfield 241, 3) := by decide +kernel
theorem dX8_fault_53 : decode cX8_fault 53 = .ok (.goto 10, 3) := by decide +kernel
theorem dX8_fault_56 : decode cX8_fault 56 = .ok (.aload_n 0, 1) := by decide +kernel
theorem dX8_fault_57 : decode cX8_fault 57 = .ok (.getfield 43, 3) := by decide +kernel
theorem dX8_fault_60 : decode cX8_fault 60 = .ok (.getfield 244, 3) := by decide +kernel
theorem dX8_fault_63 : decode cX8_fault 63 = .ok (.ireturn, 1) := by decide +kernel
theorem dX8_play_0 : decode cX8_play 0 = .ok (.aload_n 0, 1) := by decide +kernel
theorem dX8_play_1 : decode cX8_play 1 = .ok (.invokevirtual 231, 3) := by decide +kernel
theorem dX8_play_4 : decode cX8_play 4 = .ok (.aload_n 0, 1) := by decide +kernel
theorem dX8_play_5 : decode cX8_play 5 = .ok (.getfield 43, 3) := by decide +kernel
theorem dX8_play_8 : decode cX8_play 8 = .ok (.getfield 234, 3) := by decide +kernel
theorem dX8_play_11 : decode cX8_play 11 = .ok (.ifCond .eq 6, 3) := by decide +kernel
theorem dX8_play_14 : decode cX8_play 14 = .ok (.ldc 83, 2) := by decide +kernel
theorem dX8_play_16 : decode cX8_play 16 = .ok (.ireturn, 1) := by decide +kernel
theorem dX8_play_17 : decode cX8_play 17 = .ok (.aload_n 0, 1) := by decide +kernel
theorem dX8_play_18 : decode cX8_play 18 = .ok (.getfield 22, 3) := by decide +kernel
theorem dX8_play_21 : decode cX8_play 21 = .ok (.aload_n 0, 1) := by decide +kernel
theorem dX8_play_22 : decode cX8_play 22 = .ok (.getfield 10, 3) := by decide +kernel
theorem dX8_play_25 : decode cX8_play 25 = .ok (.invokevirtual 51, 3) := by decide +kernel
theorem dX8_play_28 : decode cX8_play 28 = .ok (.iconst 0, 1) := by decide +kernel
theorem dX8_play_29 : decode cX8_play 29 = .ok (.istore_n 1, 1) := by decide +kernel
theorem dX8_play_30 : decode cX8_play 30 = .ok (.iconst 0, 1) := by decide +kernel
theorem dX8_play_31 : decode cX8_play 31 = .ok (.istore_n 2, 1) := by decide +kernel
theorem dX8_play_32 : decode cX8_play 32 = .ok (.iload_n 2, 1) := by decide +kernel
theorem dX8_play_33 : decode cX8_play 33 = .ok (.bipush 60, 2) := by decide +kernel
theorem dX8_play_35 : decode cX8_play 35 = .ok (.if_icmp .ge 44, 3) := by decide +kernel
theorem dX8_play_38 : decode cX8_play 38 = .ok (.iload_n 1, 1) := by decide +kernel
theorem dX8_play_39 : decode cX8_play 39 = .ok (.aload_n 0, 1) := by decide +kernel
theorem dX8_play_40 : decode cX8_play 40 = .ok (.getfield 29, 3) := by decide +kernel
theorem dX8_play_43 : decode cX8_play 43 = .ok (.getfield 220, 3) := by decide +kernel
theorem dX8_play_46 : decode cX8_play 46 = .ok (.if_icmp .ge 33, 3) := by decide +kernel
theorem dX8_play_49 : decode cX8_play 49 = .ok (.aload_n 0, 1) := by decide +kernel
theorem dX8_play_50 : decode cX8_play 50 = .ok (.getfield 36, 3) := by decide +kernel
theorem dX8_play_53 : decode cX8_play 53 = .ok (.aload_n 0, 1) := by decide +kernel
theorem dX8_play_54 : decode cX8_play 54 = .ok (.getfield 29, 3) := by decide +kernel
theorem dX8_play_57 : decode cX8_play 57 = .ok (.iload_n 1, 1) := by decide +kernel
theorem dX8_play_58 : decode cX8_play 58 = .ok (.invokevirtual 247, 3) := by decide +kernel
theorem dX8_play_61 : decode cX8_play 61 = .ok (.aload_n 0, 1) := by decide +kernel
theorem dX8_play_62 : decode cX8_play 62 = .ok (.invokevirtual 251, 3) := by decide +kernel
theorem dX8_play_65 : decode cX8_play 65 = .ok (.aload_n 0, 1) := by decide +kernel
theorem dX8_play_66 : decode cX8_play 66 = .ok (.getfield 36, 3) := by decide +kernel
theorem dX8_play_69 : decode cX8_play 69 = .ok (.getfield 254, 3) := by decide +kernel
theorem dX8_play_72 : decode cX8_play 72 = .ok (.istore_n 1, 1) := by decide +kernel
theorem dX8_play_73 : decode cX8_play 73 = .ok (.iinc 2 1, 3) := by decide +kernel
theorem dX8_play_76 : decode cX8_play 76 = .ok (.goto (-44), 3) := by decide +kernel
theorem dX8_play_79 : decode cX8_play 79 = .ok (.iload_n 2, 1) := by decide +kernel
theorem dX8_play_80 : decode cX8_play 80 = .ok (.ireturn, 1) := by decide +kernel
theorem dX8_isWithin_0 : decode cX8_isWithin 0 = .ok (.iload_n 0, 1) := by decide +kernel
theorem dX8_isWithin_1 : decode cX8_isWithin 1 = .ok (.iload_n 1, 1) := by decide +kernel
theorem dX8_isWithin_2 : decode cX8_isWithin 2 = .ok (.if_icmp .lt 12, 3) := by decide +kernel
theorem dX8_isWithin_5 : decode cX8_isWithin 5 = .ok (.iload_n 0, 1) := by decide +kernel
theorem dX8_isWithin_6 : decode cX8_isWithin 6 = .ok (.iload_n 2, 1) := by decide +kernel
theorem dX8_isWithin_7 : decode cX8_isWithin 7 = .ok (.if_icmp .gt 7, 3) := by decide +kernel
theorem dX8_isWithin_10 : decode cX8_isWithin 10 = .ok (.iconst 1, 1) := by decide +kernel
theorem dX8_isWithin_11 : decode cX8_isWithin 11 = .ok (.goto 4, 3) := by decide +kernel
theorem dX8_isWithin_14 : decode cX8_isWithin 14 = .ok (.iconst 0, 1) := by decide +kernel
theorem dX8_isWithin_15 : decode cX8_isWithin 15 = .ok (.ireturn, 1) := by decide +kernel
theorem dX8_isTap_0 : decode cX8_isTap 0 = .ok (.iload_n 0, 1) := by decide +kernel
theorem dX8_isTap_1 : decode cX8_isTap 1 = .ok (.iconst 0, 1) := by decide +kernel
theorem dX8_isTap_2 : decode cX8_isTap 2 = .ok (.iconst 3, 1) := by decide +kernel
theorem dX8_isTap_3 : decode cX8_isTap 3 = .ok (.invokestatic 140, 3) := by decide +kernel
theorem dX8_isTap_6 : decode cX8_isTap 6 = .ok (.ireturn, 1) := by decide +kernel
theorem dX8_isSample_0 : decode cX8_isSample 0 = .ok (.iload_n 0, 1) := by decide +kernel
theorem dX8_isSample_1 : decode cX8_isSample 1 = .ok (.sipush (-20000), 3) := by decide +kernel
theorem dX8_isSample_4 : decode cX8_isSample 4 = .ok (.sipush 20000, 3) := by decide +kernel
theorem dX8_isSample_7 : decode cX8_isSample 7 = .ok (.invokestatic 140, 3) := by decide +kernel
theorem dX8_isSample_10 : decode cX8_isSample 10 = .ok (.ireturn, 1) := by decide +kernel
theorem dX8_isSetting_0 : decode cX8_isSetting 0 = .ok (.iload_n 0, 1) := by decide +kernel
theorem dX8_isSetting_1 : decode cX8_isSetting 1 = .ok (.ifCond .ne 13, 3) := by decide +kernel
theorem dX8_isSetting_4 : decode cX8_isSetting 4 = .ok (.iload_n 1, 1) := by decide +kernel
theorem dX8_isSetting_5 : decode cX8_isSetting 5 = .ok (.bipush 100, 2) := by decide +kernel
theorem dX8_isSetting_7 : decode cX8_isSetting 7 = .ok (.sipush 30000, 3) := by decide +kernel
theorem dX8_isSetting_10 : decode cX8_isSetting 10 = .ok (.invokestatic 140, 3) := by decide +kernel
theorem dX8_isSetting_13 : decode cX8_isSetting 13 = .ok (.ireturn, 1) := by decide +kernel
theorem dX8_isSetting_14 : decode cX8_isSetting 14 = .ok (.iload_n 0, 1) := by decide +kernel
theorem dX8_isSetting_15 : decode cX8_isSetting 15 = .ok (.iconst 1, 1) := by decide +kernel
theorem dX8_isSetting_16 : decode cX8_isSetting 16 = .ok (.if_icmp .ne 16, 3) := by decide +kernel
theorem dX8_isSetting_19 : decode cX8_isSetting 19 = .ok (.iload_n 1, 1) := by decide +kernel
theorem dX8_isSetting_20 : decode cX8_isSetting 20 = .ok (.iconst 0, 1) := by decide +kernel
theorem dX8_isSetting_21 : decode cX8_isSetting 21 = .ok (.iconst 2, 1) := by decide +kernel
theorem dX8_isSetting_22 : decode cX8_isSetting 22 = .ok (.invokestatic 140, 3) := by decide +kernel
theorem dX8_isSetting_25 : decode cX8_isSetting 25 = .ok (.ifCond .eq 7, 3) := by decide +kernel
theorem dX8_isSetting_28 : decode cX8_isSetting 28 = .ok (.iconst 1, 1) := by decide +kernel
theorem dX8_isSetting_29 : decode cX8_isSetting 29 = .ok (.goto 4, 3) := by decide +kernel
theorem dX8_isSetting_32 : decode cX8_isSetting 32 = .ok (.iconst 0, 1) := by decide +kernel
theorem dX8_isSetting_33 : decode cX8_isSetting 33 = .ok (.ireturn, 1) := by decide +kernel
theorem dX8_sampleError_0 : decode cX8_sampleError 0 = .ok (.iload_n 0, 1) := by decide +kernel
theorem dX8_sampleError_1 : decode cX8_sampleError 1 = .ok (.invokestatic 178, 3) := by decide +kernel
theorem dX8_sampleError_4 : decode cX8_sampleError 4 = .ok (.ifCond .eq 7, 3) := by decide +kernel
theorem dX8_sampleError_7 : decode cX8_sampleError 7 = .ok (.iconst 0, 1) := by decide +kernel
theorem dX8_sampleError_8 : decode cX8_sampleError 8 = .ok (.goto 5, 3) := by decide +kernel
theorem dX8_sampleError_11 : decode cX8_sampleError 11 = .ok (.ldc 79, 2) := by decide +kernel
theorem dX8_sampleError_13 : decode cX8_sampleError 13 = .ok (.ireturn, 1) := by decide +kernel
theorem dX8_silenceError_0 : decode cX8_silenceError 0 = .ok (.iload_n 0, 1) := by decide +kernel
theorem dX8_silenceError_1 : decode cX8_silenceError 1 = .ok (.iconst 1, 1) := by decide +kernel
theorem dX8_silenceError_2 : decode cX8_silenceError 2 = .ok (.sipush 200, 3) := by decide +kernel
theorem dX8_silenceError_5 : decode cX8_silenceError 5 = .ok (.invokestatic 140, 3) := by decide +kernel
theorem dX8_silenceError_8 : decode cX8_silenceError 8 = .ok (.ifCond .eq 7, 3) := by decide +kernel
theorem dX8_silenceError_11 : decode cX8_silenceError 11 = .ok (.iconst 0, 1) := by decide +kernel
theorem dX8_silenceError_12 : decode cX8_silenceError 12 = .ok (.goto 5, 3) := by decide +kernel
theorem dX8_silenceError_15 : decode cX8_silenceError 15 = .ok (.ldc 79, 2) := by decide +kernel
theorem dX8_silenceError_17 : decode cX8_silenceError 17 = .ok (.ireturn, 1) := by decide +kernel
theorem dX8_tapError_0 : decode cX8_tapError 0 = .ok (.iload_n 0, 1) := by decide +kernel
theorem dX8_tapError_1 : decode cX8_tapError 1 = .ok (.invokestatic 76, 3) := by decide +kernel
theorem dX8_tapError_4 : decode cX8_tapError 4 = .ok (.ifCond .eq 30, 3) := by decide +kernel
theorem dX8_tapError_7 : decode cX8_tapError 7 = .ok (.iload_n 1, 1) := by decide +kernel
theorem dX8_tapError_8 : decode cX8_tapError 8 = .ok (.iconst 1, 1) := by decide +kernel
theorem dX8_tapError_9 : decode cX8_tapError 9 = .ok (.bipush 64, 2) := by decide +kernel
theorem dX8_tapError_11 : decode cX8_tapError 11 = .ok (.invokestatic 140, 3) := by decide +kernel
theorem dX8_tapError_14 : decode cX8_tapError 14 = .ok (.ifCond .eq 20, 3) := by decide +kernel
theorem dX8_tapError_17 : decode cX8_tapError 17 = .ok (.iload_n 2, 1) := by decide +kernel
theorem dX8_tapError_18 : decode cX8_tapError 18 = .ok (.sipush (-900), 3) := by decide +kernel
theorem dX8_tapError_21 : decode cX8_tapError 21 = .ok (.sipush 900, 3) := by decide +kernel
theorem dX8_tapError_24 : decode cX8_tapError 24 = .ok (.invokestatic 140, 3) := by decide +kernel
theorem dX8_tapError_27 : decode cX8_tapError 27 = .ok (.ifCond .eq 7, 3) := by decide +kernel
theorem dX8_tapError_30 : decode cX8_tapError 30 = .ok (.iconst 1, 1) := by decide +kernel
theorem dX8_tapError_31 : decode cX8_tapError 31 = .ok (.goto 4, 3) := by decide +kernel
theorem dX8_tapError_34 : decode cX8_tapError 34 = .ok (.iconst 0, 1) := by decide +kernel
theorem dX8_tapError_35 : decode cX8_tapError 35 = .ok (.istore_n 3, 1) := by decide +kernel
theorem dX8_tapError_36 : decode cX8_tapError 36 = .ok (.iload_n 3, 1) := by decide +kernel
theorem dX8_tapError_37 : decode cX8_tapError 37 = .ok (.ifCond .eq 7, 3) := by decide +kernel
theorem dX8_tapError_40 : decode cX8_tapError 40 = .ok (.iconst 0, 1) := by decide +kernel
theorem dX8_tapError_41 : decode cX8_tapError 41 = .ok (.goto 5, 3) := by decide +kernel
theorem dX8_tapError_44 : decode cX8_tapError 44 = .ok (.ldc 79, 2) := by decide +kernel
theorem dX8_tapError_46 : decode cX8_tapError 46 = .ok (.ireturn, 1) := by decide +kernel
theorem dX8_feedbackError_0 : decode cX8_feedbackError 0 = .ok (.iload_n 0, 1) := by decide +kernel
theorem dX8_feedbackError_1 : decode cX8_feedbackError 1 = .ok (.iconst 1, 1) := by decide +kernel
theorem dX8_feedbackError_2 : decode cX8_feedbackError 2 = .ok (.bipush 64, 2) := by decide +kernel
theorem dX8_feedbackError_4 : decode cX8_feedbackError 4 = .ok (.invokestatic 140, 3) := by decide +kernel
theorem dX8_feedbackError_7 : decode cX8_feedbackError 7 = .ok (.ifCond .eq 18, 3) := by decide +kernel
theorem dX8_feedbackError_10 : decode cX8_feedbackError 10 = .ok (.iload_n 1, 1) := by decide +kernel
theorem dX8_feedbackError_11 : decode cX8_feedbackError 11 = .ok (.iconst 0, 1) := by decide +kernel
theorem dX8_feedbackError_12 : decode cX8_feedbackError 12 = .ok (.sipush 950, 3) := by decide +kernel
theorem dX8_feedbackError_15 : decode cX8_feedbackError 15 = .ok (.invokestatic 140, 3) := by decide +kernel
theorem dX8_feedbackError_18 : decode cX8_feedbackError 18 = .ok (.ifCond .eq 7, 3) := by decide +kernel
theorem dX8_feedbackError_21 : decode cX8_feedbackError 21 = .ok (.iconst 1, 1) := by decide +kernel
theorem dX8_feedbackError_22 : decode cX8_feedbackError 22 = .ok (.goto 4, 3) := by decide +kernel
theorem dX8_feedbackError_25 : decode cX8_feedbackError 25 = .ok (.iconst 0, 1) := by decide +kernel
theorem dX8_feedbackError_26 : decode cX8_feedbackError 26 = .ok (.istore_n 2, 1) := by decide +kernel
theorem dX8_feedbackError_27 : decode cX8_feedbackError 27 = .ok (.iload_n 2, 1) := by decide +kernel
theorem dX8_feedbackError_28 : decode cX8_feedbackError 28 = .ok (.ifCond .eq 7, 3) := by decide +kernel
theorem dX8_feedbackError_31 : decode cX8_feedbackError 31 = .ok (.iconst 0, 1) := by decide +kernel
theorem dX8_feedbackError_32 : decode cX8_feedbackError 32 = .ok (.goto 5, 3) := by decide +kernel
theorem dX8_feedbackError_35 : decode cX8_feedbackError 35 = .ok (.ldc 79, 2) := by decide +kernel
theorem dX8_feedbackError_37 : decode cX8_feedbackError 37 = .ok (.ireturn, 1) := by decide +kernel
theorem dX8_stealError_0 : decode cX8_stealError 0 = .ok (.iload_n 0, 1) := by decide +kernel
theorem dX8_stealError_1 : decode cX8_stealError 1 = .ok (.iconst 1, 1) := by decide +kernel
theorem dX8_stealError_2 : decode cX8_stealError 2 = .ok (.bipush 48, 2) := by decide +kernel
theorem dX8_stealError_4 : decode cX8_stealError 4 = .ok (.invokestatic 140, 3) := by decide +kernel
theorem dX8_stealError_7 : decode cX8_stealError 7 = .ok (.ifCond .ne 6, 3) := by decide +kernel
theorem dX8_stealError_10 : decode cX8_stealError 10 = .ok (.ldc 79, 2) := by decide +kernel
theorem dX8_stealError_12 : decode cX8_stealError 12 = .ok (.ireturn, 1) := by decide +kernel
theorem dX8_stealError_13 : decode cX8_stealError 13 = .ok (.iload_n 1, 1) := by decide +kernel
theorem dX8_stealError_14 : decode cX8_stealError 14 = .ok (.iload_n 0, 1) := by decide +kernel
theorem dX8_stealError_15 : decode cX8_stealError 15 = .ok (.iadd, 1) := by decide +kernel
theorem dX8_stealError_16 : decode cX8_stealError 16 = .ok (.bipush 48, 2) := by decide +kernel
theorem dX8_stealError_18 : decode cX8_stealError 18 = .ok (.if_icmp .le 8, 3) := by decide +kernel
theorem dX8_stealError_21 : decode cX8_stealError 21 = .ok (.ldc 227, 2) := by decide +kernel
theorem dX8_stealError_23 : decode cX8_stealError 23 = .ok (.goto 4, 3) := by decide +kernel
theorem dX8_stealError_26 : decode cX8_stealError 26 = .ok (.iconst 0, 1) := by decide +kernel
theorem dX8_stealError_27 : decode cX8_stealError 27 = .ok (.ireturn, 1) := by decide +kernel
theorem dX8_giveBackError_0 : decode cX8_giveBackError 0 = .ok (.iload_n 0, 1) := by decide +kernel
theorem dX8_giveBackError_1 : decode cX8_giveBackError 1 = .ok (.iconst 1, 1) := by decide +kernel
theorem dX8_giveBackError_2 : decode cX8_giveBackError 2 = .ok (.bipush 48, 2) := by decide +kernel
theorem dX8_giveBackError_4 : decode cX8_giveBackError 4 = .ok (.invokestatic 140, 3) := by decide +kernel
theorem dX8_giveBackError_7 : decode cX8_giveBackError 7 = .ok (.ifCond .ne 6, 3) := by decide +kernel
theorem dX8_giveBackError_10 : decode cX8_giveBackError 10 = .ok (.ldc 79, 2) := by decide +kernel
theorem dX8_giveBackError_12 : decode cX8_giveBackError 12 = .ok (.ireturn, 1) := by decide +kernel
theorem dX8_giveBackError_13 : decode cX8_giveBackError 13 = .ok (.iload_n 1, 1) := by decide +kernel
theorem dX8_giveBackError_14 : decode cX8_giveBackError 14 = .ok (.iload_n 0, 1) := by decide +kernel
theorem dX8_giveBackError_15 : decode cX8_giveBackError 15 = .ok (.if_icmp .ge 8, 3) := by decide +kernel
theorem dX8_giveBackError_18 : decode cX8_giveBackError 18 = .ok (.ldc 83, 2) := by decide +kernel
theorem dX8_giveBackError_20 : decode cX8_giveBackError 20 = .ok (.goto 4, 3) := by decide +kernel
theorem dX8_giveBackError_23 : decode cX8_giveBackError 23 = .ok (.iconst 0, 1) := by decide +kernel
theorem dX8_giveBackError_24 : decode cX8_giveBackError 24 = .ok (.ireturn, 1) := by decide +kernel
theorem dX8_thousandths_0 : decode cX8_thousandths 0 = .ok (.iload_n 0, 1) := by decide +kernel
theorem dX8_thousandths_1 : decode cX8_thousandths 1 = .ok (.iload_n 1, 1) := by decide +kernel
theorem dX8_thousandths_2 : decode cX8_thousandths 2 = .ok (.imul, 1) := by decide +kernel
theorem dX8_thousandths_3 : decode cX8_thousandths 3 = .ok (.sipush 1000, 3) := by decide +kernel
theorem dX8_thousandths_6 : decode cX8_thousandths 6 = .ok (.idiv, 1) := by decide +kernel
theorem dX8_thousandths_7 : decode cX8_thousandths 7 = .ok (.ireturn, 1) := by decide +kernel
theorem dX8_shaped_0 : decode cX8_shaped 0 = .ok (.iload_n 0, 1) := by decide +kernel
theorem dX8_shaped_1 : decode cX8_shaped 1 = .ok (.invokestatic 193, 3) := by decide +kernel
theorem dX8_shaped_4 : decode cX8_shaped 4 = .ok (.istore_n 3, 1) := by decide +kernel
theorem dX8_shaped_5 : decode cX8_shaped 5 = .ok (.iload_n 3, 1) := by decide +kernel
theorem dX8_shaped_6 : decode cX8_shaped 6 = .ok (.istore 4, 2) := by decide +kernel
theorem dX8_shaped_8 : decode cX8_shaped 8 = .ok (.iload_n 1, 1) := by decide +kernel
theorem dX8_shaped_9 : decode cX8_shaped 9 = .ok (.iconst 1, 1) := by decide +kernel
theorem dX8_shaped_10 : decode cX8_shaped 10 = .ok (.if_icmp .ne 32, 3) := by decide +kernel
theorem dX8_shaped_13 : decode cX8_shaped 13 = .ok (.iload_n 2, 1) := by decide +kernel
theorem dX8_shaped_14 : decode cX8_shaped 14 = .ok (.iconst 2, 1) := by decide +kernel
theorem dX8_shaped_15 : decode cX8_shaped 15 = .ok (.idiv, 1) := by decide +kernel
theorem dX8_shaped_16 : decode cX8_shaped 16 = .ok (.istore 5, 2) := by decide +kernel
theorem dX8_shaped_18 : decode cX8_shaped 18 = .ok (.iload_n 3, 1) := by decide +kernel
theorem dX8_shaped_19 : decode cX8_shaped 19 = .ok (.iload 5, 2) := by decide +kernel
theorem dX8_shaped_21 : decode cX8_shaped 21 = .ok (.if_icmp .le 18, 3) := by decide +kernel
theorem dX8_shaped_24 : decode cX8_shaped 24 = .ok (.iload 5, 2) := by decide +kernel
theorem dX8_shaped_26 : decode cX8_shaped 26 = .ok (.iload_n 3, 1) := by decide +kernel
theorem dX8_shaped_27 : decode cX8_shaped 27 = .ok (.iload 5, 2) := by decide +kernel
theorem dX8_shaped_29 : decode cX8_shaped 29 = .ok (.isub, 1) := by decide +kernel
theorem dX8_shaped_30 : decode cX8_shaped 30 = .ok (.iconst 2, 1) := by decide +kernel
theorem dX8_shaped_31 : decode cX8_shaped 31 = .ok (.idiv, 1) := by decide +kernel
theorem dX8_shaped_32 : decode cX8_shaped 32 = .ok (.iadd, 1) := by decide +kernel
theorem dX8_shaped_33 : decode cX8_shaped 33 = .ok (.iload_n 2, 1) := by decide +kernel
theorem dX8_shaped_34 : decode cX8_shaped 34 = .ok (.invokestatic 257, 3) := by decide +kernel
theorem dX8_shaped_37 : decode cX8_shaped 37 = .ok (.istore 4, 2) := by decide +kernel
theorem dX8_shaped_39 : decode cX8_shaped 39 = .ok (.goto 20, 3) := by decide +kernel
theorem dX8_shaped_42 : decode cX8_shaped 42 = .ok (.iload_n 3, 1) := by decide +kernel
theorem dX8_shaped_43 : decode cX8_shaped 43 = .ok (.iload_n 2, 1) := by decide +kernel
theorem dX8_shaped_44 : decode cX8_shaped 44 = .ok (.if_icmp .le 15, 3) := by decide +kernel
theorem dX8_shaped_47 : decode cX8_shaped 47 = .ok (.iload_n 1, 1) := by decide +kernel
theorem dX8_shaped_48 : decode cX8_shaped 48 = .ok (.iconst 2, 1) := by decide +kernel
theorem dX8_shaped_49 : decode cX8_shaped 49 = .ok (.if_icmp .ne 7, 3) := by decide +kernel
theorem dX8_shaped_52 : decode cX8_shaped 52 = .ok (.iconst 0, 1) := by decide +kernel
theorem dX8_shaped_53 : decode cX8_shaped 53 = .ok (.goto 4, 3) := by decide +kernel
theorem dX8_shaped_56 : decode cX8_shaped 56 = .ok (.iload_n 2, 1) := by decide +kernel
theorem dX8_shaped_57 : decode cX8_shaped 57 = .ok (.istore 4, 2) := by decide +kernel
theorem dX8_shaped_59 : decode cX8_shaped 59 = .ok (.iload_n 0, 1) := by decide +kernel
theorem dX8_shaped_60 : decode cX8_shaped 60 = .ok (.ifCond .ge 9, 3) := by decide +kernel
theorem dX8_shaped_63 : decode cX8_shaped 63 = .ok (.iload 4, 2) := by decide +kernel
theorem dX8_shaped_65 : decode cX8_shaped 65 = .ok (.ineg, 1) := by decide +kernel
theorem dX8_shaped_66 : decode cX8_shaped 66 = .ok (.goto 5, 3) := by decide +kernel
theorem dX8_shaped_69 : decode cX8_shaped 69 = .ok (.iload 4, 2) := by decide +kernel
theorem dX8_shaped_71 : decode cX8_shaped 71 = .ok (.ireturn, 1) := by decide +kernel
theorem dX8_wouldBeQuiet_0 : decode cX8_wouldBeQuiet 0 = .ok (.aload_n 0, 1) := by decide +kernel
theorem dX8_wouldBeQuiet_1 : decode cX8_wouldBeQuiet 1 = .ok (.getfield 16, 3) := by decide +kernel
theorem dX8_wouldBeQuiet_4 : decode cX8_wouldBeQuiet 4 = .ok (.getfield 105, 3) := by decide +kernel
theorem dX8_wouldBeQuiet_7 : decode cX8_wouldBeQuiet 7 = .ok (.invokevirtual 184, 3) := by decide +kernel
theorem dX8_wouldBeQuiet_10 : decode cX8_wouldBeQuiet 10 = .ok (.aload_n 0, 1) := by decide +kernel
theorem dX8_wouldBeQuiet_11 : decode cX8_wouldBeQuiet 11 = .ok (.getfield 16, 3) := by decide +kernel
theorem dX8_wouldBeQuiet_14 : decode cX8_wouldBeQuiet 14 = .ok (.iconst 4, 1) := by decide +kernel
theorem dX8_wouldBeQuiet_15 : decode cX8_wouldBeQuiet 15 = .ok (.aload_n 0, 1) := by decide +kernel
theorem dX8_wouldBeQuiet_16 : decode cX8_wouldBeQuiet 16 = .ok (.getfield 16, 3) := by decide +kernel
theorem dX8_wouldBeQuiet_19 : decode cX8_wouldBeQuiet 19 = .ok (.iconst 4, 1) := by decide +kernel
theorem dX8_wouldBeQuiet_20 : decode cX8_wouldBeQuiet 20 = .ok (.invokevirtual 84, 3) := by decide +kernel
theorem dX8_wouldBeQuiet_23 : decode cX8_wouldBeQuiet 23 = .ok (.iload_n 1, 1) := by decide +kernel
theorem dX8_wouldBeQuiet_24 : decode cX8_wouldBeQuiet 24 = .ok (.invokevirtual 68, 3) := by decide +kernel
theorem dX8_wouldBeQuiet_27 : decode cX8_wouldBeQuiet 27 = .ok (.aload_n 0, 1) := by decide +kernel
theorem dX8_wouldBeQuiet_28 : decode cX8_wouldBeQuiet 28 = .ok (.getfield 16, 3) := by decide +kernel
theorem dX8_wouldBeQuiet_31 : decode cX8_wouldBeQuiet 31 = .ok (.sipush 20000, 3) := by decide +kernel
theorem dX8_wouldBeQuiet_34 : decode cX8_wouldBeQuiet 34 = .ok (.invokevirtual 190, 3) := by decide +kernel
theorem dX8_wouldBeQuiet_37 : decode cX8_wouldBeQuiet 37 = .ok (.pop, 1) := by decide +kernel
theorem dX8_wouldBeQuiet_38 : decode cX8_wouldBeQuiet 38 = .ok (.iconst 0, 1) := by decide +kernel
theorem dX8_wouldBeQuiet_39 : decode cX8_wouldBeQuiet 39 = .ok (.istore 4, 2) := by decide +kernel
theorem dX8_wouldBeQuiet_41 : decode cX8_wouldBeQuiet 41 = .ok (.iload 4, 2) := by decide +kernel
theorem dX8_wouldBeQuiet_43 : decode cX8_wouldBeQuiet 43 = .ok (.iload_n 2, 1) := by decide +kernel
theorem dX8_wouldBeQuiet_44 : decode cX8_wouldBeQuiet 44 = .ok (.if_icmp .ge 18, 3) := by decide +kernel
theorem dX8_wouldBeQuiet_47 : decode cX8_wouldBeQuiet 47 = .ok (.aload_n 0, 1) := by decide +kernel
theorem dX8_wouldBeQuiet_48 : decode cX8_wouldBeQuiet 48 = .ok (.getfield 16, 3) := by decide +kernel
theorem dX8_wouldBeQuiet_51 : decode cX8_wouldBeQuiet 51 = .ok (.iconst 0, 1) := by decide +kernel
theorem dX8_wouldBeQuiet_52 : decode cX8_wouldBeQuiet 52 = .ok (.invokevirtual 190, 3) := by decide +kernel
theorem dX8_wouldBeQuiet_55 : decode cX8_wouldBeQuiet 55 = .ok (.pop, 1) := by decide +kernel
theorem dX8_wouldBeQuiet_56 : decode cX8_wouldBeQuiet 56 = .ok (.iinc 4 1, 3) := by decide +kernel
theorem dX8_wouldBeQuiet_59 : decode cX8_wouldBeQuiet 59 = .ok (.goto (-18), 3) := by decide +kernel
theorem dX8_wouldBeQuiet_62 : decode cX8_wouldBeQuiet 62 = .ok (.aload_n 0, 1) := by decide +kernel
theorem dX8_wouldBeQuiet_63 : decode cX8_wouldBeQuiet 63 = .ok (.getfield 16, 3) := by decide +kernel
theorem dX8_wouldBeQuiet_66 : decode cX8_wouldBeQuiet 66 = .ok (.getfield 105, 3) := by decide +kernel
theorem dX8_wouldBeQuiet_69 : decode cX8_wouldBeQuiet 69 = .ok (.iload_n 3, 1) := by decide +kernel
theorem dX8_wouldBeQuiet_70 : decode cX8_wouldBeQuiet 70 = .ok (.invokevirtual 187, 3) := by decide +kernel
theorem dX8_wouldBeQuiet_73 : decode cX8_wouldBeQuiet 73 = .ok (.ifCond .ne 7, 3) := by decide +kernel
theorem dX8_wouldBeQuiet_76 : decode cX8_wouldBeQuiet 76 = .ok (.iconst 1, 1) := by decide +kernel
theorem dX8_wouldBeQuiet_77 : decode cX8_wouldBeQuiet 77 = .ok (.goto 4, 3) := by decide +kernel
theorem dX8_wouldBeQuiet_80 : decode cX8_wouldBeQuiet 80 = .ok (.iconst 0, 1) := by decide +kernel
theorem dX8_wouldBeQuiet_81 : decode cX8_wouldBeQuiet 81 = .ok (.ireturn, 1) := by decide +kernel
theorem dX8_tapsOn_0 : decode cX8_tapsOn 0 = .ok (.iconst 0, 1) := by decide +kernel
theorem dX8_tapsOn_1 : decode cX8_tapsOn 1 = .ok (.istore_n 1, 1) := by decide +kernel
theorem dX8_tapsOn_2 : decode cX8_tapsOn 2 = .ok (.iconst 0, 1) := by decide +kernel
theorem dX8_tapsOn_3 : decode cX8_tapsOn 3 = .ok (.istore_n 2, 1) := by decide +kernel
theorem dX8_tapsOn_4 : decode cX8_tapsOn 4 = .ok (.iload_n 2, 1) := by decide +kernel
theorem dX8_tapsOn_5 : decode cX8_tapsOn 5 = .ok (.iconst 4, 1) := by decide +kernel
theorem dX8_tapsOn_6 : decode cX8_tapsOn 6 = .ok (.if_icmp .ge 28, 3) := by decide +kernel
theorem dX8_tapsOn_9 : decode cX8_tapsOn 9 = .ok (.iload_n 1, 1) := by decide +kernel
theorem dX8_tapsOn_10 : decode cX8_tapsOn 10 = .ok (.aload_n 0, 1) := by decide +kernel
theorem dX8_tapsOn_11 : decode cX8_tapsOn 11 = .ok (.getfield 10, 3) := by decide +kernel
theorem dX8_tapsOn_14 : decode cX8_tapsOn 14 = .ok (.iload_n 2, 1) := by decide +kernel
theorem dX8_tapsOn_15 : decode cX8_tapsOn 15 = .ok (.invokevirtual 80, 3) := by decide +kernel
theorem dX8_tapsOn_18 : decode cX8_tapsOn 18 = .ok (.ifCond .eq 7, 3) := by decide +kernel
theorem dX8_tapsOn_21 : decode cX8_tapsOn 21 = .ok (.iconst 1, 1) := by decide +kernel
theorem dX8_tapsOn_22 : decode cX8_tapsOn 22 = .ok (.goto 4, 3) := by decide +kernel
theorem dX8_tapsOn_25 : decode cX8_tapsOn 25 = .ok (.iconst 0, 1) := by decide +kernel
theorem dX8_tapsOn_26 : decode cX8_tapsOn 26 = .ok (.iadd, 1) := by decide +kernel
theorem dX8_tapsOn_27 : decode cX8_tapsOn 27 = .ok (.istore_n 1, 1) := by decide +kernel
theorem dX8_tapsOn_28 : decode cX8_tapsOn 28 = .ok (.iinc 2 1, 3) := by decide +kernel
theorem dX8_tapsOn_31 : decode cX8_tapsOn 31 = .ok (.goto (-27), 3) := by decide +kernel
theorem dX8_tapsOn_34 : decode cX8_tapsOn 34 = .ok (.iload_n 1, 1) := by decide +kernel
theorem dX8_tapsOn_35 : decode cX8_tapsOn 35 = .ok (.ireturn, 1) := by decide +kernel
theorem dX8_tapsLost_0 : decode cX8_tapsLost 0 = .ok (.iconst 0, 1) := by decide +kernel
theorem dX8_tapsLost_1 : decode cX8_tapsLost 1 = .ok (.istore_n 1, 1) := by decide +kernel
theorem dX8_tapsLost_2 : decode cX8_tapsLost 2 = .ok (.iconst 0, 1) := by decide +kernel
theorem dX8_tapsLost_3 : decode cX8_tapsLost 3 = .ok (.istore_n 2, 1) := by decide +kernel
theorem dX8_tapsLost_4 : decode cX8_tapsLost 4 = .ok (.iload_n 2, 1) := by decide +kernel
theorem dX8_tapsLost_5 : decode cX8_tapsLost 5 = .ok (.iconst 4, 1) := by decide +kernel
theorem dX8_tapsLost_6 : decode cX8_tapsLost 6 = .ok (.if_icmp .ge 39, 3) := by decide +kernel
theorem dX8_tapsLost_9 : decode cX8_tapsLost 9 = .ok (.iload_n 1, 1) := by decide +kernel
theorem dX8_tapsLost_10 : decode cX8_tapsLost 10 = .ok (.aload_n 0, 1) := by decide +kernel
theorem dX8_tapsLost_11 : decode cX8_tapsLost 11 = .ok (.getfield 10, 3) := by decide +kernel
theorem dX8_tapsLost_14 : decode cX8_tapsLost 14 = .ok (.iload_n 2, 1) := by decide +kernel
theorem dX8_tapsLost_15 : decode cX8_tapsLost 15 = .ok (.invokevirtual 80, 3) := by decide +kernel
theorem dX8_tapsLost_18 : decode cX8_tapsLost 18 = .ok (.ifCond .eq 18, 3) := by decide +kernel
theorem dX8_tapsLost_21 : decode cX8_tapsLost 21 = .ok (.aload_n 0, 1) := by decide +kernel
theorem dX8_tapsLost_22 : decode cX8_tapsLost 22 = .ok (.getfield 10, 3) := by decide +kernel
theorem dX8_tapsLost_25 : decode cX8_tapsLost 25 = .ok (.iload_n 2, 1) := by decide +kernel
theorem dX8_tapsLost_26 : decode cX8_tapsLost 26 = .ok (.invokevirtual 72, 3) := by decide +kernel
theorem dX8_tapsLost_29 : decode cX8_tapsLost 29 = .ok (.ifCond .eq 7, 3) := by decide +kernel
theorem dX8_tapsLost_32 : decode cX8_tapsLost 32 = .ok (.iconst 1, 1) := by decide +kernel
theorem dX8_tapsLost_33 : decode cX8_tapsLost 33 = .ok (.goto 4, 3) := by decide +kernel
theorem dX8_tapsLost_36 : decode cX8_tapsLost 36 = .ok (.iconst 0, 1) := by decide +kernel
theorem dX8_tapsLost_37 : decode cX8_tapsLost 37 = .ok (.iadd, 1) := by decide +kernel
theorem dX8_tapsLost_38 : decode cX8_tapsLost 38 = .ok (.istore_n 1, 1) := by decide +kernel
theorem dX8_tapsLost_39 : decode cX8_tapsLost 39 = .ok (.iinc 2 1, 3) := by decide +kernel
theorem dX8_tapsLost_42 : decode cX8_tapsLost 42 = .ok (.goto (-38), 3) := by decide +kernel
theorem dX8_tapsLost_45 : decode cX8_tapsLost 45 = .ok (.iload_n 1, 1) := by decide +kernel
theorem dX8_tapsLost_46 : decode cX8_tapsLost 46 = .ok (.ireturn, 1) := by decide +kernel
theorem dX8_findFault_0 : decode cX8_findFault 0 = .ok (.aload_n 0, 1) := by decide +kernel
theorem dX8_findFault_1 : decode cX8_findFault 1 = .ok (.getfield 43, 3) := by decide +kernel
theorem dX8_findFault_4 : decode cX8_findFault 4 = .ok (.iconst 0, 1) := by decide +kernel
theorem dX8_findFault_5 : decode cX8_findFault 5 = .ok (.putfield 234, 3) := by decide +kernel
theorem dX8_findFault_8 : decode cX8_findFault 8 = .ok (.aload_n 0, 1) := by decide +kernel
theorem dX8_findFault_9 : decode cX8_findFault 9 = .ok (.getfield 10, 3) := by decide +kernel
theorem dX8_findFault_12 : decode cX8_findFault 12 = .ok (.invokevirtual 94, 3) := by decide +kernel
theorem dX8_findFault_15 : decode cX8_findFault 15 = .ok (.istore_n 1, 1) := by decide +kernel
theorem dX8_findFault_16 : decode cX8_findFault 16 = .ok (.iconst 0, 1) := by decide +kernel
theorem dX8_findFault_17 : decode cX8_findFault 17 = .ok (.istore_n 2, 1) := by decide +kernel
theorem dX8_findFault_18 : decode cX8_findFault 18 = .ok (.iconst 0, 1) := by decide +kernel
theorem dX8_findFault_19 : decode cX8_findFault 19 = .ok (.istore_n 3, 1) := by decide +kernel
theorem dX8_findFault_20 : decode cX8_findFault 20 = .ok (.iload_n 3, 1) := by decide +kernel
theorem dX8_findFault_21 : decode cX8_findFault 21 = .ok (.bipush 60, 2) := by decide +kernel
theorem dX8_findFault_23 : decode cX8_findFault 23 = .ok (.if_icmp .ge 100, 3) := by decide +kernel
theorem dX8_findFault_26 : decode cX8_findFault 26 = .ok (.iload_n 2, 1) := by decide +kernel
theorem dX8_findFault_27 : decode cX8_findFault 27 = .ok (.aload_n 0, 1) := by decide +kernel
theorem dX8_findFault_28 : decode cX8_findFault 28 = .ok (.getfield 29, 3) := by decide +kernel
theorem dX8_findFault_31 : decode cX8_findFault 31 = .ok (.getfield 220, 3) := by decide +kernel
theorem dX8_findFault_34 : decode cX8_findFault 34 = .ok (.if_icmp .ge 89, 3) := by decide +kernel
theorem dX8_findFault_37 : decode cX8_findFault 37 = .ok (.aload_n 0, 1) := by decide +kernel
theorem dX8_findFault_38 : decode cX8_findFault 38 = .ok (.getfield 36, 3) := by decide +kernel
theorem dX8_findFault_41 : decode cX8_findFault 41 = .ok (.aload_n 0, 1) := by decide +kernel
theorem dX8_findFault_42 : decode cX8_findFault 42 = .ok (.getfield 29, 3) := by decide +kernel
theorem dX8_findFault_45 : decode cX8_findFault 45 = .ok (.iload_n 2, 1) := by decide +kernel
theorem dX8_findFault_46 : decode cX8_findFault 46 = .ok (.invokevirtual 247, 3) := by decide +kernel
theorem dX8_findFault_49 : decode cX8_findFault 49 = .ok (.aload_n 0, 1) := by decide +kernel
theorem dX8_findFault_50 : decode cX8_findFault 50 = .ok (.getfield 36, 3) := by decide +kernel
theorem dX8_findFault_53 : decode cX8_findFault 53 = .ok (.getfield 260, 3) := by decide +kernel
theorem dX8_findFault_56 : decode cX8_findFault 56 = .ok (.ifCond .ne 22, 3) := by decide +kernel
theorem dX8_findFault_59 : decode cX8_findFault 59 = .ok (.aload_n 0, 1) := by decide +kernel
theorem dX8_findFault_60 : decode cX8_findFault 60 = .ok (.getfield 43, 3) := by decide +kernel
theorem dX8_findFault_63 : decode cX8_findFault 63 = .ok (.iload_n 2, 1) := by decide +kernel
theorem dX8_findFault_64 : decode cX8_findFault 64 = .ok (.iconst 1, 1) := by decide +kernel
theorem dX8_findFault_65 : decode cX8_findFault 65 = .ok (.aload_n 0, 1) := by decide +kernel
theorem dX8_findFault_66 : decode cX8_findFault 66 = .ok (.getfield 36, 3) := by decide +kernel
theorem dX8_findFault_69 : decode cX8_findFault 69 = .ok (.getfield 254, 3) := by decide +kernel
theorem dX8_findFault_72 : decode cX8_findFault 72 = .ok (.iload_n 2, 1) := by decide +kernel
theorem dX8_findFault_73 : decode cX8_findFault 73 = .ok (.isub, 1) := by decide +kernel
theorem dX8_findFault_74 : decode cX8_findFault 74 = .ok (.invokevirtual 263, 3) := by decide +kernel
theorem dX8_findFault_77 : decode cX8_findFault 77 = .ok (.return_, 1) := by decide +kernel
theorem dX8_findFault_78 : decode cX8_findFault 78 = .ok (.aload_n 0, 1) := by decide +kernel
theorem dX8_findFault_79 : decode cX8_findFault 79 = .ok (.iload_n 1, 1) := by decide +kernel
theorem dX8_findFault_80 : decode cX8_findFault 80 = .ok (.invokevirtual 266, 3) := by decide +kernel
theorem dX8_findFault_83 : decode cX8_findFault 83 = .ok (.istore 4, 2) := by decide +kernel
theorem dX8_findFault_85 : decode cX8_findFault 85 = .ok (.iload 4, 2) := by decide +kernel
theorem dX8_findFault_87 : decode cX8_findFault 87 = .ok (.ifCond .eq 15, 3) := by decide +kernel
theorem dX8_findFault_90 : decode cX8_findFault 90 = .ok (.aload_n 0, 1) := by decide +kernel
theorem dX8_findFault_91 : decode cX8_findFault 91 = .ok (.getfield 43, 3) := by decide +kernel
theorem dX8_findFault_94 : decode cX8_findFault 94 = .ok (.iload_n 2, 1) := by decide +kernel
theorem dX8_findFault_95 : decode cX8_findFault 95 = .ok (.iconst 2, 1) := by decide +kernel
theorem dX8_findFault_96 : decode cX8_findFault 96 = .ok (.iload 4, 2) := by decide +kernel
theorem dX8_findFault_98 : decode cX8_findFault 98 = .ok (.invokevirtual 263, 3) := by decide +kernel
theorem dX8_findFault_101 : decode cX8_findFault 101 = .ok (.return_, 1) := by decide +kernel
theorem dX8_findFault_102 : decode cX8_findFault 102 = .ok (.iload_n 1, 1) := by decide +kernel
theorem dX8_findFault_103 : decode cX8_findFault 103 = .ok (.aload_n 0, 1) := by decide +kernel
theorem dX8_findFault_104 : decode cX8_findFault 104 = .ok (.invokevirtual 269, 3) := by decide +kernel
theorem dX8_findFault_107 : decode cX8_findFault 107 = .ok (.iadd, 1) := by decide +kernel
theorem dX8_findFault_108 : decode cX8_findFault 108 = .ok (.istore_n 1, 1) := by decide +kernel
theorem dX8_findFault_109 : decode cX8_findFault 109 = .ok (.aload_n 0, 1) := by decide +kernel
theorem dX8_findFault_110 : decode cX8_findFault 110 = .ok (.getfield 36, 3) := by decide +kernel
theorem dX8_findFault_113 : decode cX8_findFault 113 = .ok (.getfield 254, 3) := by decide +kernel
theorem dX8_findFault_116 : decode cX8_findFault 116 = .ok (.istore_n 2, 1) := by decide +kernel
theorem dX8_findFault_117 : decode cX8_findFault 117 = .ok (.iinc 3 1, 3) := by decide +kernel
theorem dX8_findFault_120 : decode cX8_findFault 120 = .ok (.goto (-100), 3) := by decide +kernel
theorem dX8_findFault_123 : decode cX8_findFault 123 = .ok (.return_, 1) := by decide +kernel
theorem dX8_orderError_0 : decode cX8_orderError 0 = .ok (.aload_n 0, 1) := by decide +kernel
theorem dX8_orderError_1 : decode cX8_orderError 1 = .ok (.getfield 36, 3) := by decide +kernel
theorem dX8_orderError_4 : decode cX8_orderError 4 = .ok (.iconst 0, 1) := by decide +kernel
theorem dX8_orderError_5 : decode cX8_orderError 5 = .ok (.invokevirtual 272, 3) := by decide +kernel
theorem dX8_orderError_8 : decode cX8_orderError 8 = .ok (.istore_n 2, 1) := by decide +kernel
theorem dX8_orderError_9 : decode cX8_orderError 9 = .ok (.aload_n 0, 1) := by decide +kernel
theorem dX8_orderError_10 : decode cX8_orderError 10 = .ok (.getfield 36, 3) := by decide +kernel
theorem dX8_orderError_13 : decode cX8_orderError 13 = .ok (.iconst 1, 1) := by decide +kernel
theorem dX8_orderError_14 : decode cX8_orderError 14 = .ok (.invokevirtual 272, 3) := by decide +kernel
theorem dX8_orderError_17 : decode cX8_orderError 17 = .ok (.istore_n 3, 1) := by decide +kernel
theorem dX8_orderError_18 : decode cX8_orderError 18 = .ok (.aload_n 0, 1) := by decide +kernel
theorem dX8_orderError_19 : decode cX8_orderError 19 = .ok (.getfield 36, 3) := by decide +kernel
theorem dX8_orderError_22 : decode cX8_orderError 22 = .ok (.getfield 275, 3) := by decide +kernel
theorem dX8_orderError_25 : decode cX8_orderError 25 = .ok (.lookupswitch 87 #[(102, 75), (107, 81), (115, 51), (116, 61), (122, 56)], 51) := by decide +kernel
theorem dX8_orderError_76 : decode cX8_orderError 76 = .ok (.iload_n 2, 1) := by decide +kernel
theorem dX8_orderError_77 : decode cX8_orderError 77 = .ok (.invokestatic 47, 3) := by decide +kernel
theorem dX8_orderError_80 : decode cX8_orderError 80 = .ok (.ireturn, 1) := by decide +kernel
theorem dX8_orderError_81 : decode cX8_orderError 81 = .ok (.iload_n 2, 1) := by decide +kernel
theorem dX8_orderError_82 : decode cX8_orderError 82 = .ok (.invokestatic 58, 3) := by decide +kernel
theorem dX8_orderError_85 : decode cX8_orderError 85 = .ok (.ireturn, 1) := by decide +kernel
theorem dX8_orderError_86 : decode cX8_orderError 86 = .ok (.iload_n 2, 1) := by decide +kernel
theorem dX8_orderError_87 : decode cX8_orderError 87 = .ok (.iload_n 3, 1) := by decide +kernel
theorem dX8_orderError_88 : decode cX8_orderError 88 = .ok (.aload_n 0, 1) := by decide +kernel
theorem dX8_orderError_89 : decode cX8_orderError 89 = .ok (.getfield 36, 3) := by decide +kernel
theorem dX8_orderError_92 : decode cX8_orderError 92 = .ok (.iconst 2, 1) := by decide +kernel
theorem dX8_orderError_93 : decode cX8_orderError 93 = .ok (.invokevirtual 272, 3) := by decide +kernel
theorem dX8_orderError_96 : decode cX8_orderError 96 = .ok (.invokestatic 64, 3) := by decide +kernel
theorem dX8_orderError_99 : decode cX8_orderError 99 = .ok (.ireturn, 1) := by decide +kernel
theorem dX8_orderError_100 : decode cX8_orderError 100 = .ok (.iload_n 2, 1) := by decide +kernel
theorem dX8_orderError_101 : decode cX8_orderError 101 = .ok (.iload_n 3, 1) := by decide +kernel
theorem dX8_orderError_102 : decode cX8_orderError 102 = .ok (.invokestatic 87, 3) := by decide +kernel
theorem dX8_orderError_105 : decode cX8_orderError 105 = .ok (.ireturn, 1) := by decide +kernel
theorem dX8_orderError_106 : decode cX8_orderError 106 = .ok (.iload_n 2, 1) := by decide +kernel
theorem dX8_orderError_107 : decode cX8_orderError 107 = .ok (.iload_n 1, 1) := by decide +kernel
theorem dX8_orderError_108 : decode cX8_orderError 108 = .ok (.invokestatic 98, 3) := by decide +kernel
theorem dX8_orderError_111 : decode cX8_orderError 111 = .ok (.ireturn, 1) := by decide +kernel
theorem dX8_orderError_112 : decode cX8_orderError 112 = .ok (.iload_n 2, 1) := by decide +kernel
theorem dX8_orderError_113 : decode cX8_orderError 113 = .ok (.iload_n 1, 1) := by decide +kernel
theorem dX8_orderError_114 : decode cX8_orderError 114 = .ok (.invokestatic 115, 3) := by decide +kernel
theorem dX8_orderError_117 : decode cX8_orderError 117 = .ok (.ireturn, 1) := by decide +kernel
theorem dX8_wordsThatGo_0 : decode cX8_wordsThatGo 0 = .ok (.aload_n 0, 1) := by decide +kernel
theorem dX8_wordsThatGo_1 : decode cX8_wordsThatGo 1 = .ok (.getfield 36, 3) := by decide +kernel
theorem dX8_wordsThatGo_4 : decode cX8_wordsThatGo 4 = .ok (.iconst 0, 1) := by decide +kernel
theorem dX8_wordsThatGo_5 : decode cX8_wordsThatGo 5 = .ok (.invokevirtual 272, 3) := by decide +kernel
theorem dX8_wordsThatGo_8 : decode cX8_wordsThatGo 8 = .ok (.istore_n 1, 1) := by decide +kernel
theorem dX8_wordsThatGo_9 : decode cX8_wordsThatGo 9 = .ok (.aload_n 0, 1) := by decide +kernel
theorem dX8_wordsThatGo_10 : decode cX8_wordsThatGo 10 = .ok (.getfield 36, 3) := by decide +kernel
theorem dX8_wordsThatGo_13 : decode cX8_wordsThatGo 13 = .ok (.getfield 275, 3) := by decide +kernel
theorem dX8_wordsThatGo_16 : decode cX8_wordsThatGo 16 = .ok (.bipush 107, 2) := by decide +kernel
theorem dX8_wordsThatGo_18 : decode cX8_wordsThatGo 18 = .ok (.if_icmp .ne 5, 3) := by decide +kernel
theorem dX8_wordsThatGo_21 : decode cX8_wordsThatGo 21 = .ok (.iload_n 1, 1) := by decide +kernel
theorem dX8_wordsThatGo_22 : decode cX8_wordsThatGo 22 = .ok (.ireturn, 1) := by decide +kernel
theorem dX8_wordsThatGo_23 : decode cX8_wordsThatGo 23 = .ok (.aload_n 0, 1) := by decide +kernel
theorem dX8_wordsThatGo_24 : decode cX8_wordsThatGo 24 = .ok (.getfield 36, 3) := by decide +kernel
theorem dX8_wordsThatGo_27 : decode cX8_wordsThatGo 27 = .ok (.getfield 275, 3) := by decide +kernel
theorem dX8_wordsThatGo_30 : decode cX8_wordsThatGo 30 = .ok (.bipush 103, 2) := by decide +kernel
theorem dX8_wordsThatGo_32 : decode cX8_wordsThatGo 32 = .ok (.if_icmp .ne 8, 3) := by decide +kernel
theorem dX8_wordsThatGo_35 : decode cX8_wordsThatGo 35 = .ok (.iload_n 1, 1) := by decide +kernel
theorem dX8_wordsThatGo_36 : decode cX8_wordsThatGo 36 = .ok (.ineg, 1) := by decide +kernel
theorem dX8_wordsThatGo_37 : decode cX8_wordsThatGo 37 = .ok (.goto 4, 3) := by decide +kernel
theorem dX8_wordsThatGo_40 : decode cX8_wordsThatGo 40 = .ok (.iconst 0, 1) := by decide +kernel
theorem dX8_wordsThatGo_41 : decode cX8_wordsThatGo 41 = .ok (.ireturn, 1) := by decide +kernel
theorem dX8_doOrder_0 : decode cX8_doOrder 0 = .ok (.aload_n 0, 1) := by decide +kernel
theorem dX8_doOrder_1 : decode cX8_doOrder 1 = .ok (.getfield 36, 3) := by decide +kernel
theorem dX8_doOrder_4 : decode cX8_doOrder 4 = .ok (.iconst 0, 1) := by decide +kernel
theorem dX8_doOrder_5 : decode cX8_doOrder 5 = .ok (.invokevirtual 272, 3) := by decide +kernel
theorem dX8_doOrder_8 : decode cX8_doOrder 8 = .ok (.istore_n 1, 1) := by decide +kernel
theorem dX8_doOrder_9 : decode cX8_doOrder 9 = .ok (.aload_n 0, 1) := by decide +kernel
theorem dX8_doOrder_10 : decode cX8_doOrder 10 = .ok (.getfield 36, 3) := by decide +kernel
theorem dX8_doOrder_13 : decode cX8_doOrder 13 = .ok (.iconst 1, 1) := by decide +kernel
theorem dX8_doOrder_14 : decode cX8_doOrder 14 = .ok (.invokevirtual 272, 3) := by decide +kernel
theorem dX8_doOrder_17 : decode cX8_doOrder 17 = .ok (.istore_n 2, 1) := by decide +kernel
theorem dX8_doOrder_18 : decode cX8_doOrder 18 = .ok (.aload_n 0, 1) := by decide +kernel
theorem dX8_doOrder_19 : decode cX8_doOrder 19 = .ok (.getfield 36, 3) := by decide +kernel
theorem dX8_doOrder_22 : decode cX8_doOrder 22 = .ok (.getfield 275, 3) := by decide +kernel
theorem dX8_doOrder_25 : decode cX8_doOrder 25 = .ok (.lookupswitch 119 #[(102, 95), (107, 108), (115, 51), (116, 75), (122, 63)], 51) := by decide +kernel
theorem dX8_doOrder_76 : decode cX8_doOrder 76 = .ok (.aload_n 0, 1) := by decide +kernel
theorem dX8_doOrder_77 : decode cX8_doOrder 77 = .ok (.getfield 10, 3) := by decide +kernel
theorem dX8_doOrder_80 : decode cX8_doOrder 80 = .ok (.iload_n 1, 1) := by decide +kernel
theorem dX8_doOrder_81 : decode cX8_doOrder 81 = .ok (.invokevirtual 55, 3) := by decide +kernel
theorem dX8_doOrder_84 : decode cX8_doOrder 84 = .ok (.pop, 1) := by decide +kernel
theorem dX8_doOrder_85 : decode cX8_doOrder 85 = .ok (.goto 70, 3) := by decide +kernel
theorem dX8_doOrder_88 : decode cX8_doOrder 88 = .ok (.aload_n 0, 1) := by decide +kernel
theorem dX8_doOrder_89 : decode cX8_doOrder 89 = .ok (.getfield 10, 3) := by decide +kernel
theorem dX8_doOrder_92 : decode cX8_doOrder 92 = .ok (.iload_n 1, 1) := by decide +kernel
theorem dX8_doOrder_93 : decode cX8_doOrder 93 = .ok (.invokevirtual 61, 3) := by decide +kernel
theorem dX8_doOrder_96 : decode cX8_doOrder 96 = .ok (.pop, 1) := by decide +kernel
theorem dX8_doOrder_97 : decode cX8_doOrder 97 = .ok (.goto 58, 3) := by decide +kernel
theorem dX8_doOrder_100 : decode cX8_doOrder 100 = .ok (.aload_n 0, 1) := by decide +kernel
theorem dX8_doOrder_101 : decode cX8_doOrder 101 = .ok (.getfield 10, 3) := by decide +kernel
theorem dX8_doOrder_104 : decode cX8_doOrder 104 = .ok (.iload_n 1, 1) := by decide +kernel
theorem dX8_doOrder_105 : decode cX8_doOrder 105 = .ok (.iload_n 2, 1) := by decide +kernel
theorem dX8_doOrder_106 : decode cX8_doOrder 106 = .ok (.aload_n 0, 1) := by decide +kernel
theorem dX8_doOrder_107 : decode cX8_doOrder 107 = .ok (.getfield 36, 3) := by decide +kernel
theorem dX8_doOrder_110 : decode cX8_doOrder 110 = .ok (.iconst 2, 1) := by decide +kernel
theorem dX8_doOrder_111 : decode cX8_doOrder 111 = .ok (.invokevirtual 272, 3) := by decide +kernel
theorem dX8_doOrder_114 : decode cX8_doOrder 114 = .ok (.invokevirtual 68, 3) := by decide +kernel
theorem dX8_doOrder_117 : decode cX8_doOrder 117 = .ok (.goto 38, 3) := by decide +kernel
theorem dX8_doOrder_120 : decode cX8_doOrder 120 = .ok (.aload_n 0, 1) := by decide +kernel
theorem dX8_doOrder_121 : decode cX8_doOrder 121 = .ok (.getfield 10, 3) := by decide +kernel
theorem dX8_doOrder_124 : decode cX8_doOrder 124 = .ok (.iconst 4, 1) := by decide +kernel
theorem dX8_doOrder_125 : decode cX8_doOrder 125 = .ok (.iload_n 1, 1) := by decide +kernel
theorem dX8_doOrder_126 : decode cX8_doOrder 126 = .ok (.iload_n 2, 1) := by decide +kernel
theorem dX8_doOrder_127 : decode cX8_doOrder 127 = .ok (.invokevirtual 68, 3) := by decide +kernel
theorem dX8_doOrder_130 : decode cX8_doOrder 130 = .ok (.goto 25, 3) := by decide +kernel
theorem dX8_doOrder_133 : decode cX8_doOrder 133 = .ok (.aload_n 0, 1) := by decide +kernel
theorem dX8_doOrder_134 : decode cX8_doOrder 134 = .ok (.getfield 10, 3) := by decide +kernel
theorem dX8_doOrder_137 : decode cX8_doOrder 137 = .ok (.iload_n 1, 1) := by decide +kernel
theorem dX8_doOrder_138 : decode cX8_doOrder 138 = .ok (.invokevirtual 101, 3) := by decide +kernel
theorem dX8_doOrder_141 : decode cX8_doOrder 141 = .ok (.goto 14, 3) := by decide +kernel
theorem dX8_doOrder_144 : decode cX8_doOrder 144 = .ok (.aload_n 0, 1) := by decide +kernel
theorem dX8_doOrder_145 : decode cX8_doOrder 145 = .ok (.getfield 10, 3) := by decide +kernel
theorem dX8_doOrder_148 : decode cX8_doOrder 148 = .ok (.getfield 105, 3) := by decide +kernel
theorem dX8_doOrder_151 : decode cX8_doOrder 151 = .ok (.iload_n 1, 1) := by decide +kernel
theorem dX8_doOrder_152 : decode cX8_doOrder 152 = .ok (.invokevirtual 118, 3) := by decide +kernel
theorem dX8_doOrder_155 : decode cX8_doOrder 155 = .ok (.return_, 1) := by decide +kernel
theorem dX9_init_0 : decode cX9_init 0 = .ok (.aload_n 0, 1) := by decide +kernel
theorem dX9_init_1 : decode cX9_init 1 = .ok (.invokespecial 1, 3) := by decide +kernel
theorem dX9_init_4 : decode cX9_init 4 = .ok (.aload_n 0, 1) := by decide +kernel
theorem dX9_init_5 : decode cX9_init 5 = .ok (.sipush 700, 3) := by decide +kernel
theorem dX9_init_8 : decode cX9_init 8 = .ok (.newarray .int, 2) := by decide +kernel
theorem dX9_init_10 : decode cX9_init 10 = .ok (.putfield 7, 3) := by decide +kernel
theorem dX9_init_13 : decode cX9_init 13 = .ok (.aload_n 0, 1) := by decide +kernel
theorem dX9_init_14 : decode cX9_init 14 = .ok (.bipush 7, 2) := by decide +kernel
theorem dX9_init_16 : decode cX9_init 16 = .ok (.newarray .long, 2) := by decide +kernel
theorem dX9_init_18 : decode cX9_init 18 = .ok (.putfield 13, 3) := by decide +kernel
theorem dX9_init_21 : decode cX9_init 21 = .ok (.aload_n 0, 1) := by decide +kernel
theorem dX9_init_22 : decode cX9_init 22 = .ok (.bipush 60, 2) := by decide +kernel
theorem dX9_init_24 : decode cX9_init 24 = .ok (.newarray .char, 2) := by decide +kernel
theorem dX9_init_26 : decode cX9_init 26 = .ok (.putfield 17, 3) := by decide +kernel
theorem dX9_init_29 : decode cX9_init 29 = .ok (.aload_n 0, 1) := by decide +kernel
theorem dX9_init_30 : decode cX9_init 30 = .ok (.iconst 3, 1) := by decide +kernel
theorem dX9_init_31 : decode cX9_init 31 = .ok (.newarray .int, 2) := by decide +kernel
theorem dX9_init_33 : decode cX9_init 33 = .ok (.putfield 21, 3) := by decide +kernel
theorem dX9_init_36 : decode cX9_init 36 = .ok (.aload_n 0, 1) := by decide +kernel
theorem dX9_init_37 : decode cX9_init 37 = .ok (.getfield 7, 3) := by decide +kernel
theorem dX9_init_40 : decode cX9_init 40 = .ok (.bipush 73, 2) := by decide +kernel
theorem dX9_init_42 : decode cX9_init 42 = .ok (.bipush 16, 2) := by decide +kernel
theorem dX9_init_44 : decode cX9_init 44 = .ok (.iastore, 1) := by decide +kernel
theorem dX9_init_45 : decode cX9_init 45 = .ok (.aload_n 0, 1) := by decide +kernel
theorem dX9_init_46 : decode cX9_init 46 = .ok (.getfield 7, 3) := by decide +kernel
theorem dX9_init_49 : decode cX9_init 49 = .ok (.bipush 79, 2) := by decide +kernel
theorem dX9_init_51 : decode cX9_init 51 = .ok (.sipush 16000, 3) := by decide +kernel
theorem dX9_init_54 : decode cX9_init 54 = .ok (.iastore, 1) := by decide +kernel
theorem dX9_init_55 : decode cX9_init 55 = .ok (.return_, 1) := by decide +kernel
theorem dX9_in_0 : decode cX9_in 0 = .ok (.iload_n 0, 1) := by decide +kernel
theorem dX9_in_1 : decode cX9_in 1 = .ok (.iload_n 1, 1) := by decide +kernel
theorem dX9_in_2 : decode cX9_in 2 = .ok (.if_icmp .lt 12, 3) := by decide +kernel
theorem dX9_in_5 : decode cX9_in 5 = .ok (.iload_n 0, 1) := by decide +kernel
theorem dX9_in_6 : decode cX9_in 6 = .ok (.iload_n 2, 1) := by decide +kernel
theorem dX9_in_7 : decode cX9_in 7 = .ok (.if_icmp .gt 7, 3) := by decide +kernel
theorem dX9_in_10 : decode cX9_in 10 = .ok (.iconst 1, 1) := by decide +kernel
theorem dX9_in_11 : decode cX9_in 11 = .ok (.goto 4, 3) := by decide +kernel
theorem dX9_in_14 : decode cX9_in 14 = .ok (.iconst 0, 1) := by decide +kernel
theorem dX9_in_15 : decode cX9_in 15 = .ok (.ireturn, 1) := by decide +kernel
theorem dX9_amount_0 : decode cX9_amount 0 = .ok (.iload_n 0, 1) := by decide +kernel
theorem dX9_amount_1 : decode cX9_amount 1 = .ok (.ifCond .ge 8, 3) := by decide +kernel
theorem dX9_amount_4 : decode cX9_amount 4 = .ok (.iload_n 0, 1) := by decide +kernel
theorem dX9_amount_5 : decode cX9_amount 5 = .ok (.ineg, 1) := by decide +kernel
theorem dX9_amount_6 : decode cX9_amount 6 = .ok (.goto 4, 3) := by decide +kernel
theorem dX9_amount_9 : decode cX9_amount 9 = .ok (.iload_n 0, 1) := by decide +kernel
theorem dX9_amount_10 : decode cX9_amount 10 = .ok (.ireturn, 1) := by decide +kernel
theorem dX9_copies_0 : decode cX9_copies 0 = .ok (.iconst 0, 1) := by decide +kernel
theorem dX9_copies_1 : decode cX9_copies 1 = .ok (.istore_n 3, 1) := by decide +kernel
theorem dX9_copies_2 : decode cX9_copies 2 = .ok (.iload_n 3, 1) := by decide +kernel
theorem dX9_copies_3 : decode cX9_copies 3 = .ok (.bipush 100, 2) := by decide +kernel
theorem dX9_copies_5 : decode cX9_copies 5 = .ok (.if_icmp .ge 31, 3) := by decide +kernel
theorem dX9_copies_8 : decode cX9_copies 8 = .ok (.aload_n 0, 1) := by decide +kernel
theorem dX9_copies_9 : decode cX9_copies 9 = .ok (.getfield 7, 3) := by decide +kernel
theorem dX9_copies_12 : decode cX9_copies 12 = .ok (.bipush 100, 2) := by decide +kernel
theorem dX9_copies_14 : decode cX9_copies 14 = .ok (.iload_n 2, 1) := by decide +kernel
theorem dX9_copies_15 : decode cX9_copies 15 = .ok (.imul, 1) := by decide +kernel
theorem dX9_copies_16 : decode cX9_copies 16 = .ok (.iload_n 3, 1) := by decide +kernel
theorem dX9_copies_17 : decode cX9_copies 17 = .ok (.iadd, 1) := by decide +kernel
theorem dX9_copies_18 : decode cX9_copies 18 = .ok (.aload_n 0, 1) := by decide +kernel
theorem dX9_copies_19 : decode cX9_copies 19 = .ok (.getfield 7, 3) := by decide +kernel
theorem dX9_copies_22 : decode cX9_copies 22 = .ok (.bipush 100, 2) := by decide +kernel
theorem dX9_copies_24 : decode cX9_copies 24 = .ok (.iload_n 1, 1) := by decide +kernel
theorem dX9_copies_25 : decode cX9_copies 25 = .ok (.imul, 1) := by decide +kernel
theorem dX9_copies_26 : decode cX9_copies 26 = .ok (.iload_n 3, 1) := by decide +kernel
theorem dX9_copies_27 : decode cX9_copies 27 = .ok (.iadd, 1) := by decide +kernel
theorem dX9_copies_28 : decode cX9_copies 28 = .ok (.iaload, 1) := by decide +kernel
theorem dX9_copies_29 : decode cX9_copies 29 = .ok (.iastore, 1) := by decide +kernel
theorem dX9_copies_30 : decode cX9_copies 30 = .ok (.iinc 3 1, 3) := by decide +kernel
theorem dX9_copies_33 : decode cX9_copies 33 = .ok (.goto (-31), 3) := by decide +kernel
theorem dX9_copies_36 : decode cX9_copies 36 = .ok (.aload_n 0, 1) := by decide +kernel
theorem dX9_copies_37 : decode cX9_copies 37 = .ok (.getfield 13, 3) := by decide +kernel
theorem dX9_copies_40 : decode cX9_copies 40 = .ok (.iload_n 2, 1) := by decide +kernel
theorem dX9_copies_41 : decode cX9_copies 41 = .ok (.aload_n 0, 1) := by decide +kernel
theorem dX9_copies_42 : decode cX9_copies 42 = .ok (.getfield 13, 3) := by decide +kernel
theorem dX9_copies_45 : decode cX9_copies 45 = .ok (.iload_n 1, 1) := by decide +kernel
theorem dX9_copies_46 : decode cX9_copies 46 = .ok (.laload, 1) := by decide +kernel
theorem dX9_copies_47 : decode cX9_copies 47 = .ok (.lastore, 1) := by decide +kernel
theorem dX9_copies_48 : decode cX9_copies 48 = .ok (.return_, 1) := by decide +kernel
theorem dX9_keeps_0 : decode cX9_keeps 0 = .ok (.aload_n 0, 1) := by decide +kernel
theorem dX9_keeps_1 : decode cX9_keeps 1 = .ok (.iconst 0, 1) := by decide +kernel
theorem dX9_keeps_2 : decode cX9_keeps 2 = .ok (.bipush 6, 2) := by decide +kernel
theorem dX9_keeps_4 : decode cX9_keeps 4 = .ok (.invokevirtual 24, 3) := by decide +kernel
theorem dX9_keeps_7 : decode cX9_keeps 7 = .ok (.return_, 1) := by decide +kernel
theorem dX9_acted_0 : decode cX9_acted 0 = .ok (.iload_n 1, 1) := by decide +kernel
theorem dX9_acted_1 : decode cX9_acted 1 = .ok (.ldc 28, 2) := by decide +kernel
theorem dX9_acted_3 : decode cX9_acted 3 = .ok (.if_icmp .le 57, 3) := by decide +kernel
theorem dX9_acted_6 : decode cX9_acted 6 = .ok (.aload_n 0, 1) := by decide +kernel
theorem dX9_acted_7 : decode cX9_acted 7 = .ok (.getfield 29, 3) := by decide +kernel
theorem dX9_acted_10 : decode cX9_acted 10 = .ok (.iconst 4, 1) := by decide +kernel
theorem dX9_acted_11 : decode cX9_acted 11 = .ok (.if_icmp .ne 29, 3) := by decide +kernel
theorem dX9_acted_14 : decode cX9_acted 14 = .ok (.iconst 1, 1) := by decide +kernel
theorem dX9_acted_15 : decode cX9_acted 15 = .ok (.istore_n 2, 1) := by decide +kernel
theorem dX9_acted_16 : decode cX9_acted 16 = .ok (.iload_n 2, 1) := by decide +kernel
theorem dX9_acted_17 : decode cX9_acted 17 = .ok (.iconst 4, 1) := by decide +kernel
theorem dX9_acted_18 : decode cX9_acted 18 = .ok (.if_icmp .ge 17, 3) := by decide +kernel
theorem dX9_acted_21 : decode cX9_acted 21 = .ok (.aload_n 0, 1) := by decide +kernel
theorem dX9_acted_22 : decode cX9_acted 22 = .ok (.iload_n 2, 1) := by decide +kernel
theorem dX9_acted_23 : decode cX9_acted 23 = .ok (.iconst 1, 1) := by decide +kernel
theorem dX9_acted_24 : decode cX9_acted 24 = .ok (.iadd, 1) := by decide +kernel
theorem dX9_acted_25 : decode cX9_acted 25 = .ok (.iload_n 2, 1) := by decide +kernel
theorem dX9_acted_26 : decode cX9_acted 26 = .ok (.invokevirtual 24, 3) := by decide +kernel
theorem dX9_acted_29 : decode cX9_acted 29 = .ok (.iinc 2 1, 3) := by decide +kernel
theorem dX9_acted_32 : decode cX9_acted 32 = .ok (.goto (-16), 3) := by decide +kernel
theorem dX9_acted_35 : decode cX9_acted 35 = .ok (.aload_n 0, 1) := by decide +kernel
theorem dX9_acted_36 : decode cX9_acted 36 = .ok (.iconst 3, 1) := by decide +kernel
theorem dX9_acted_37 : decode cX9_acted 37 = .ok (.putfield 29, 3) := by decide +kernel
theorem dX9_acted_40 : decode cX9_acted 40 = .ok (.aload_n 0, 1) := by decide +kernel
theorem dX9_acted_41 : decode cX9_acted 41 = .ok (.dup, 1) := by decide +kernel
theorem dX9_acted_42 : decode cX9_acted 42 = .ok (.getfield 29, 3) := by decide +kernel
theorem dX9_acted_45 : decode cX9_acted 45 = .ok (.iconst 1, 1) := by decide +kernel
theorem dX9_acted_46 : decode cX9_acted 46 = .ok (.iadd, 1) := by decide +kernel
theorem dX9_acted_47 : decode cX9_acted 47 = .ok (.putfield 29, 3) := by decide +kernel
theorem dX9_acted_50 : decode cX9_acted 50 = .ok (.aload_n 0, 1) := by decide +kernel
theorem dX9_acted_51 : decode cX9_acted 51 = .ok (.bipush 6, 2) := by decide +kernel
theorem dX9_acted_53 : decode cX9_acted 53 = .ok (.aload_n 0, 1) := by decide +kernel
theorem dX9_acted_54 : decode cX9_acted 54 = .ok (.getfield 29, 3) := by decide +kernel
theorem dX9_acted_57 : decode cX9_acted 57 = .ok (.invokevirtual 24, 3) := by decide +kernel
theorem dX9_acted_60 : decode cX9_acted 60 = .ok (.iload_n 1, 1) := by decide +kernel
theorem dX9_acted_61 : decode cX9_acted 61 = .ok (.ireturn, 1) := by decide +kernel
theorem dX9_length_0 : decode cX9_length 0 = .ok (.bipush 64, 2) := by decide +kernel
theorem dX9_length_2 : decode cX9_length 2 = .ok (.aload_n 0, 1) := by decide +kernel
theorem dX9_length_3 : decode cX9_length 3 = .ok (.getfield 7, 3) := by decide +kernel
theorem dX9_length_6 : decode cX9_length 6 = .ok (.bipush 100, 2) := by decide +kernel
theorem dX9_length_8 : decode cX9_length 8 = .ok (.iload_n 1, 1) := by decide +kernel
theorem dX9_length_9 : decode cX9_length 9 = .ok (.imul, 1) := by decide +kernel
theorem dX9_length_10 : decode cX9_length 10 = .ok (.bipush 64, 2) := by decide +kernel
theorem dX9_length_12 : decode cX9_length 12 = .ok (.iadd, 1) := by decide +kernel
theorem dX9_length_13 : decode cX9_length 13 = .ok (.iaload, 1) := by decide +kernel
theorem dX9_length_14 : decode cX9_length 14 = .ok (.isub, 1) := by decide +kernel
theorem dX9_length_15 : decode cX9_length 15 = .ok (.ireturn, 1) := by decide +kernel
theorem dX9_isLost_0 : decode cX9_isLost 0 = .ok (.aload_n 0, 1) := by decide +kernel
theorem dX9_isLost_1 : decode cX9_isLost 1 = .ok (.getfield 7, 3) := by decide +kernel
theorem dX9_isLost_4 : decode cX9_isLost 4 = .ok (.bipush 100, 2) := by decide +kernel
theorem dX9_isLost_6 : decode cX9_isLost 6 = .ok (.iload_n 1, 1) := by decide +kernel
theorem dX9_isLost_7 : decode cX9_isLost 7 = .ok (.imul, 1) := by decide +kernel
theorem dX9_isLost_8 : decode cX9_isLost 8 = .ok (.bipush 69, 2) := by decide +kernel
theorem dX9_isLost_10 : decode cX9_isLost 10 = .ok (.iadd, 1) := by decide +kernel
theorem dX9_isLost_11 : decode cX9_isLost 11 = .ok (.iload_n 2, 1) := by decide +kernel
theorem dX9_isLost_12 : decode cX9_isLost 12 = .ok (.iadd, 1) := by decide +kernel
theorem dX9_isLost_13 : decode cX9_isLost 13 = .ok (.iaload, 1) := by decide +kernel
theorem dX9_isLost_14 : decode cX9_isLost 14 = .ok (.aload_n 0, 1) := by decide +kernel
theorem dX9_isLost_15 : decode cX9_isLost 15 = .ok (.iload_n 1, 1) := by decide +kernel
theorem dX9_isLost_16 : decode cX9_isLost 16 = .ok (.invokevirtual 33, 3) := by decide +kernel
theorem dX9_isLost_19 : decode cX9_isLost 19 = .ok (.if_icmp .le 7, 3) := by decide +kernel
theorem dX9_isLost_22 : decode cX9_isLost 22 = .ok (.iconst 1, 1) := by decide +kernel
theorem dX9_isLost_23 : decode cX9_isLost 23 = .ok (.goto 4, 3) := by decide +kernel
theorem dX9_isLost_26 : decode cX9_isLost 26 = .ok (.iconst 0, 1) := by decide +kernel
theorem dX9_isLost_27 : decode cX9_isLost 27 = .ok (.ireturn, 1) := by decide +kernel
theorem dX9_reads_0 : decode cX9_reads 0 = .ok (.aload_n 0, 1) := by decide +kernel
theorem dX9_reads_1 : decode cX9_reads 1 = .ok (.iload_n 1, 1) := by decide +kernel
theorem dX9_reads_2 : decode cX9_reads 2 = .ok (.iload_n 2, 1) := by decide +kernel
theorem dX9_reads_3 : decode cX9_reads 3 = .ok (.invokevirtual 37, 3) := by decide +kernel
theorem dX9_reads_6 : decode cX9_reads 6 = .ok (.ifCond .eq 7, 3) := by decide +kernel
theorem dX9_reads_9 : decode cX9_reads 9 = .ok (.iconst 0, 1) := by decide +kernel
theorem dX9_reads_10 : decode cX9_reads 10 = .ok (.goto 29, 3) := by decide +kernel
theorem dX9_reads_13 : decode cX9_reads 13 = .ok (.aload_n 0, 1) := by decide +kernel
theorem dX9_reads_14 : decode cX9_reads 14 = .ok (.getfield 7, 3) := by decide +kernel
theorem dX9_reads_17 : decode cX9_reads 17 = .ok (.bipush 100, 2) := by decide +kernel
theorem dX9_reads_19 : decode cX9_reads 19 = .ok (.iload_n 1, 1) := by decide +kernel
theorem dX9_reads_20 : decode cX9_reads 20 = .ok (.imul, 1) := by decide +kernel
theorem dX9_reads_21 : decode cX9_reads 21 = .ok (.aload_n 0, 1) := by decide +kernel
theorem dX9_reads_22 : decode cX9_reads 22 = .ok (.getfield 7, 3) := by decide +kernel
theorem dX9_reads_25 : decode cX9_reads 25 = .ok (.bipush 100, 2) := by decide +kernel
theorem dX9_reads_27 : decode cX9_reads 27 = .ok (.iload_n 1, 1) := by decide +kernel
theorem dX9_reads_28 : decode cX9_reads 28 = .ok (.imul, 1) := by decide +kernel
theorem dX9_reads_29 : decode cX9_reads 29 = .ok (.bipush 69, 2) := by decide +kernel
theorem dX9_reads_31 : decode cX9_reads 31 = .ok (.iadd, 1) := by decide +kernel
theorem dX9_reads_32 : decode cX9_reads 32 = .ok (.iload_n 2, 1) := by decide +kernel
theorem dX9_reads_33 : decode cX9_reads 33 = .ok (.iadd, 1) := by decide +kernel
theorem dX9_reads_34 : decode cX9_reads 34 = .ok (.iaload, 1) := by decide +kernel
theorem dX9_reads_35 : decode cX9_reads 35 = .ok (.iadd, 1) := by decide +kernel
theorem dX9_reads_36 : decode cX9_reads 36 = .ok (.iconst 1, 1) := by decide +kernel
theorem dX9_reads_37 : decode cX9_reads 37 = .ok (.isub, 1) := by decide +kernel
theorem dX9_reads_38 : decode cX9_reads 38 = .ok (.iaload, 1) := by decide +kernel
theorem dX9_reads_39 : decode cX9_reads 39 = .ok (.ireturn, 1) := by decide +kernel
theorem dX9_share_0 : decode cX9_share 0 = .ok (.aload_n 0, 1) := by decide +kernel
theorem dX9_share_1 : decode cX9_share 1 = .ok (.getfield 7, 3) := by decide +kernel
theorem dX9_share_4 : decode cX9_share 4 = .ok (.bipush 100, 2) := by decide +kernel
theorem dX9_share_6 : decode cX9_share 6 = .ok (.iload_n 1, 1) := by decide +kernel
theorem dX9_share_7 : decode cX9_share 7 = .ok (.imul, 1) := by decide +kernel
theorem dX9_share_8 : decode cX9_share 8 = .ok (.bipush 74, 2) := by decide +kernel
theorem dX9_share_10 : decode cX9_share 10 = .ok (.iadd, 1) := by decide +kernel
theorem dX9_share_11 : decode cX9_share 11 = .ok (.iload_n 2, 1) := by decide +kernel
theorem dX9_share_12 : decode cX9_share 12 = .ok (.iadd, 1) := by decide +kernel
theorem dX9_share_13 : decode cX9_share 13 = .ok (.iaload, 1) := by decide +kernel
theorem dX9_share_14 : decode cX9_share 14 = .ok (.aload_n 0, 1) := by decide +kernel
theorem dX9_share_15 : decode cX9_share 15 = .ok (.iload_n 1, 1) := by decide +kernel
theorem dX9_share_16 : decode cX9_share 16 = .ok (.iload_n 2, 1) := by decide +kernel
theorem dX9_share_17 : decode cX9_share 17 = .ok (.invokevirtual 41, 3) := by decide +kernel
theorem dX9_share_20 : decode cX9_share 20 = .ok (.imul, 1) := by decide +kernel
theorem dX9_share_21 : decode cX9_share 21 = .ok (.sipush 1000, 3) := by decide +kernel
theorem dX9_share_24 : decode cX9_share 24 = .ok (.idiv, 1) := by decide +kernel
theorem dX9_share_25 : decode cX9_share 25 = .ok (.ireturn, 1) := by decide +kernel
theorem dX9_shaped_0 : decode cX9_shaped 0 = .ok (.aload_n 0, 1) := by decide +kernel
theorem dX9_shaped_1 : decode cX9_shaped 1 = .ok (.getfield 7, 3) := by decide +kernel
theorem dX9_shaped_4 : decode cX9_shaped 4 = .ok (.bipush 100, 2) := by decide +kernel
theorem dX9_shaped_6 : decode cX9_shaped 6 = .ok (.iload_n 1, 1) := by decide +kernel
theorem dX9_shaped_7 : decode cX9_shaped 7 = .ok (.imul, 1) := by decide +kernel
theorem dX9_shaped_8 : decode cX9_shaped 8 = .ok (.bipush 79, 2) := by decide +kernel
theorem dX9_shaped_10 : decode cX9_shaped 10 = .ok (.iadd, 1) := by decide +kernel
theorem dX9_shaped_11 : decode cX9_shaped 11 = .ok (.iaload, 1) := by decide +kernel
theorem dX9_shaped_12 : decode cX9_shaped 12 = .ok (.istore_n 3, 1) := by decide +kernel
theorem dX9_shaped_13 : decode cX9_shaped 13 = .ok (.aload_n 0, 1) := by decide +kernel
theorem dX9_shaped_14 : decode cX9_shaped 14 = .ok (.getfield 7, 3) := by decide +kernel
theorem dX9_shaped_17 : decode cX9_shaped 17 = .ok (.bipush 100, 2) := by decide +kernel
theorem dX9_shaped_19 : decode cX9_shaped 19 = .ok (.iload_n 1, 1) := by decide +kernel
theorem dX9_shaped_20 : decode cX9_shaped 20 = .ok (.imul, 1) := by decide +kernel
theorem dX9_shaped_21 : decode cX9_shaped 21 = .ok (.bipush 80, 2) := by decide +kernel
theorem dX9_shaped_23 : decode cX9_shaped 23 = .ok (.iadd, 1) := by decide +kernel
theorem dX9_shaped_24 : decode cX9_shaped 24 = .ok (.iaload, 1) := by decide +kernel
theorem dX9_shaped_25 : decode cX9_shaped 25 = .ok (.istore 4, 2) := by decide +kernel
theorem dX9_shaped_27 : decode cX9_shaped 27 = .ok (.iload_n 2, 1) := by decide +kernel
theorem dX9_shaped_28 : decode cX9_shaped 28 = .ok (.invokestatic 45, 3) := by decide +kernel
theorem dX9_shaped_31 : decode cX9_shaped 31 = .ok (.istore 5, 2) := by decide +kernel
theorem dX9_shaped_33 : decode cX9_shaped 33 = .ok (.iload 5, 2) := by decide +kernel
theorem dX9_shaped_35 : decode cX9_shaped 35 = .ok (.istore 6, 2) := by decide +kernel
theorem dX9_shaped_37 : decode cX9_shaped 37 = .ok (.iload 4, 2) := by decide +kernel
theorem dX9_shaped_39 : decode cX9_shaped 39 = .ok (.ifCond .ne 20, 3) := by decide +kernel
theorem dX9_shaped_42 : decode cX9_shaped 42 = .ok (.iload 5, 2) := by decide +kernel
theorem dX9_shaped_44 : decode cX9_shaped 44 = .ok (.iload_n 3, 1) := by decide +kernel
theorem dX9_shaped_45 : decode cX9_shaped 45 = .ok (.if_icmp .le 7, 3) := by decide +kernel
theorem dX9_shaped_48 : decode cX9_shaped 48 = .ok (.iload_n 3, 1) := by decide +kernel
theorem dX9_shaped_49 : decode cX9_shaped 49 = .ok (.goto 5, 3) := by decide +kernel
theorem dX9_shaped_52 : decode cX9_shaped 52 = .ok (.iload 5, 2) := by decide +kernel
theorem dX9_shaped_54 : decode cX9_shaped 54 = .ok (.istore 6, 2) := by decide +kernel
theorem dX9_shaped_56 : decode cX9_shaped 56 = .ok (.goto 69, 3) := by decide +kernel
theorem dX9_shaped_59 : decode cX9_shaped 59 = .ok (.iload 4, 2) := by decide +kernel
theorem dX9_shaped_61 : decode cX9_shaped 61 = .ok (.iconst 1, 1) := by decide +kernel
theorem dX9_shaped_62 : decode cX9_shaped 62 = .ok (.if_icmp .ne 49, 3) := by decide +kernel
theorem dX9_shaped_65 : decode cX9_shaped 65 = .ok (.iload_n 3, 1) := by decide +kernel
theorem dX9_shaped_66 : decode cX9_shaped 66 = .ok (.iconst 2, 1) := by decide +kernel
theorem dX9_shaped_67 : decode cX9_shaped 67 = .ok (.idiv, 1) := by decide +kernel
theorem dX9_shaped_68 : decode cX9_shaped 68 = .ok (.istore 7, 2) := by decide +kernel
theorem dX9_shaped_70 : decode cX9_shaped 70 = .ok (.iload 5, 2) := by decide +kernel
theorem dX9_shaped_72 : decode cX9_shaped 72 = .ok (.iload 7, 2) := by decide +kernel
theorem dX9_shaped_74 : decode cX9_shaped 74 = .ok (.if_icmp .le 16, 3) := by decide +kernel
theorem dX9_shaped_77 : decode cX9_shaped 77 = .ok (.iload 7, 2) := by decide +kernel
theorem dX9_shaped_79 : decode cX9_shaped 79 = .ok (.iload 5, 2) := by decide +kernel
theorem dX9_shaped_81 : decode cX9_shaped 81 = .ok (.iload 7, 2) := by decide +kernel
theorem dX9_shaped_83 : decode cX9_shaped 83 = .ok (.isub, 1) := by decide +kernel
theorem dX9_shaped_84 : decode cX9_shaped 84 = .ok (.iconst 2, 1) := by decide +kernel
theorem dX9_shaped_85 : decode cX9_shaped 85 = .ok (.idiv, 1) := by decide +kernel
theorem dX9_shaped_86 : decode cX9_shaped 86 = .ok (.iadd, 1) := by decide +kernel
theorem dX9_shaped_87 : decode cX9_shaped 87 = .ok (.goto 5, 3) := by decide +kernel
theorem dX9_shaped_90 : decode cX9_shaped 90 = .ok (.iload 5, 2) := by decide +kernel
theorem dX9_shaped_92 : decode cX9_shaped 92 = .ok (.istore 6, 2) := by decide +kernel
theorem dX9_shaped_94 : decode cX9_shaped 94 = .ok (.iload 6, 2) := by decide +kernel
theorem dX9_shaped_96 : decode cX9_shaped 96 = .ok (.iload_n 3, 1) := by decide +kernel
theorem dX9_shaped_97 : decode cX9_shaped 97 = .ok (.if_icmp .le 7, 3) := by decide +kernel
theorem dX9_shaped_100 : decode cX9_shaped 100 = .ok (.iload_n 3, 1) := by decide +kernel
theorem dX9_shaped_101 : decode cX9_shaped 101 = .ok (.goto 5, 3) := by decide +kernel
theorem dX9_shaped_104 : decode cX9_shaped 104 = .ok (.iload 6, 2) := by decide +kernel
theorem dX9_shaped_106 : decode cX9_shaped 106 = .ok (.istore 6, 2) := by decide +kernel
theorem dX9_shaped_108 : decode cX9_shaped 108 = .ok (.goto 17, 3) := by decide +kernel
theorem dX9_shaped_111 : decode cX9_shaped 111 = .ok (.iload 5, 2) := by decide +kernel
theorem dX9_shaped_113 : decode cX9_shaped 113 = .ok (.iload_n 3, 1) := by decide +kernel
theorem dX9_shaped_114 : decode cX9_shaped 114 = .ok (.if_icmp .le 7, 3) := by decide +kernel
theorem dX9_shaped_117 : decode cX9_shaped 117 = .ok (.iconst 0, 1) := by decide +kernel
theorem dX9_shaped_118 : decode cX9_shaped 118 = .ok (.goto 5, 3) := by decide +kernel
theorem dX9_shaped_121 : decode cX9_shaped 121 = .ok (.iload 5, 2) := by decide +kernel
theorem dX9_shaped_123 : decode cX9_shaped 123 = .ok (.istore 6, 2) := by decide +kernel
theorem dX9_shaped_125 : decode cX9_shaped 125 = .ok (.iload_n 2, 1) := by decide +kernel
theorem dX9_shaped_126 : decode cX9_shaped 126 = .ok (.ifCond .ge 9, 3) := by decide +kernel
theorem dX9_shaped_129 : decode cX9_shaped 129 = .ok (.iload 6, 2) := by decide +kernel
theorem dX9_shaped_131 : decode cX9_shaped 131 = .ok (.ineg, 1) := by decide +kernel
theorem dX9_shaped_132 : decode cX9_shaped 132 = .ok (.goto 5, 3) := by decide +kernel
theorem dX9_shaped_135 : decode cX9_shaped 135 = .ok (.iload 6, 2) := by decide +kernel
theorem dX9_shaped_137 : decode cX9_shaped 137 = .ok (.ireturn, 1) := by decide +kernel
theorem dX9_goes_0 : decode cX9_goes 0 = .ok (.bipush 100, 2) := by decide +kernel
theorem dX9_goes_2 : decode cX9_goes 2 = .ok (.iload_n 1, 1) := by decide +kernel
theorem dX9_goes_3 : decode cX9_goes 3 = .ok (.imul, 1) := by decide +kernel
theorem dX9_goes_4 : decode cX9_goes 4 = .ok (.istore_n 3, 1) := by decide +kernel
theorem dX9_goes_5 : decode cX9_goes 5 = .ok (.iload_n 2, 1) := by decide +kernel
theorem dX9_goes_6 : decode cX9_goes 6 = .ok (.istore 4, 2) := by decide +kernel
theorem dX9_goes_8 : decode cX9_goes 8 = .ok (.iconst 0, 1) := by decide +kernel
theorem dX9_goes_9 : decode cX9_goes 9 = .ok (.istore 5, 2) := by decide +kernel
theorem dX9_goes_11 : decode cX9_goes 11 = .ok (.iload 5, 2) := by decide +kernel
theorem dX9_goes_13 : decode cX9_goes 13 = .ok (.iconst 4, 1) := by decide +kernel
theorem dX9_goes_14 : decode cX9_goes 14 = .ok (.if_icmp .ge 41, 3) := by decide +kernel
theorem dX9_goes_17 : decode cX9_goes 17 = .ok (.iload 4, 2) := by decide +kernel
theorem dX9_goes_19 : decode cX9_goes 19 = .ok (.aload_n 0, 1) := by decide +kernel
theorem dX9_goes_20 : decode cX9_goes 20 = .ok (.getfield 7, 3) := by decide +kernel
theorem dX9_goes_23 : decode cX9_goes 23 = .ok (.iload_n 3, 1) := by decide +kernel
theorem dX9_goes_24 : decode cX9_goes 24 = .ok (.bipush 65, 2) := by decide +kernel
theorem dX9_goes_26 : decode cX9_goes 26 = .ok (.iadd, 1) := by decide +kernel
theorem dX9_goes_27 : decode cX9_goes 27 = .ok (.iload 5, 2) := by decide +kernel
theorem dX9_goes_29 : decode cX9_goes 29 = .ok (.iadd, 1) := by decide +kernel
theorem dX9_goes_30 : decode cX9_goes 30 = .ok (.iaload, 1) := by decide +kernel
theorem dX9_goes_31 : decode cX9_goes 31 = .ok (.iconst 1, 1) := by decide +kernel
theorem dX9_goes_32 : decode cX9_goes 32 = .ok (.if_icmp .ne 13, 3) := by decide +kernel
theorem dX9_goes_35 : decode cX9_goes 35 = .ok (.aload_n 0, 1) := by decide +kernel
theorem dX9_goes_36 : decode cX9_goes 36 = .ok (.iload_n 1, 1) := by decide +kernel
theorem dX9_goes_37 : decode cX9_goes 37 = .ok (.iload 5, 2) := by decide +kernel
theorem dX9_goes_39 : decode cX9_goes 39 = .ok (.invokevirtual 48, 3) := by decide +kernel
theorem dX9_goes_42 : decode cX9_goes 42 = .ok (.goto 4, 3) := by decide +kernel
theorem dX9_goes_45 : decode cX9_goes 45 = .ok (.iconst 0, 1) := by decide +kernel
theorem dX9_goes_46 : decode cX9_goes 46 = .ok (.iadd, 1) := by decide +kernel
theorem dX9_goes_47 : decode cX9_goes 47 = .ok (.istore 4, 2) := by decide +kernel
theorem dX9_goes_49 : decode cX9_goes 49 = .ok (.iinc 5 1, 3) := by decide +kernel
theorem dX9_goes_52 : decode cX9_goes 52 = .ok (.goto (-41), 3) := by decide +kernel
theorem dX9_goes_55 : decode cX9_goes 55 = .ok (.iload_n 2, 1) := by decide +kernel
theorem dX9_goes_56 : decode cX9_goes 56 = .ok (.aload_n 0, 1) := by decide +kernel
theorem dX9_goes_57 : decode cX9_goes 57 = .ok (.iload_n 1, 1) := by decide +kernel
theorem dX9_goes_58 : decode cX9_goes 58 = .ok (.iconst 4, 1) := by decide +kernel
theorem dX9_goes_59 : decode cX9_goes 59 = .ok (.invokevirtual 48, 3) := by decide +kernel
theorem dX9_goes_62 : decode cX9_goes 62 = .ok (.iadd, 1) := by decide +kernel
theorem dX9_goes_63 : decode cX9_goes 63 = .ok (.istore 5, 2) := by decide +kernel
theorem dX9_goes_65 : decode cX9_goes 65 = .ok (.aload_n 0, 1) := by decide +kernel
theorem dX9_goes_66 : decode cX9_goes 66 = .ok (.iload_n 1, 1) := by decide +kernel
theorem dX9_goes_67 : decode cX9_goes 67 = .ok (.iload 4, 2) := by decide +kernel
theorem dX9_goes_69 : decode cX9_goes 69 = .ok (.invokevirtual 51, 3) := by decide +kernel
theorem dX9_goes_72 : decode cX9_goes 72 = .ok (.istore 6, 2) := by decide +kernel
theorem dX9_goes_74 : decode cX9_goes 74 = .ok (.aload_n 0, 1) := by decide +kernel
theorem dX9_goes_75 : decode cX9_goes 75 = .ok (.iload_n 1, 1) := by decide +kernel
theorem dX9_goes_76 : decode cX9_goes 76 = .ok (.iload 5, 2) := by decide +kernel
theorem dX9_goes_78 : decode cX9_goes 78 = .ok (.invokevirtual 51, 3) := by decide +kernel
theorem dX9_goes_81 : decode cX9_goes 81 = .ok (.istore 7, 2) := by decide +kernel
theorem dX9_goes_83 : decode cX9_goes 83 = .ok (.aload_n 0, 1) := by decide +kernel
theorem dX9_goes_84 : decode cX9_goes 84 = .ok (.getfield 7, 3) := by decide +kernel
theorem dX9_goes_87 : decode cX9_goes 87 = .ok (.iload_n 3, 1) := by decide +kernel
theorem dX9_goes_88 : decode cX9_goes 88 = .ok (.bipush 83, 2) := by decide +kernel
theorem dX9_goes_90 : decode cX9_goes 90 = .ok (.iadd, 1) := by decide +kernel
theorem dX9_goes_91 : decode cX9_goes 91 = .ok (.dup2, 1) := by decide +kernel
theorem dX9_goes_92 : decode cX9_goes 92 = .ok (.iaload, 1) := by decide +kernel
theorem dX9_goes_93 : decode cX9_goes 93 = .ok (.iload 6, 2) := by decide +kernel
theorem dX9_goes_95 : decode cX9_goes 95 = .ok (.iload 4, 2) := by decide +kernel
theorem dX9_goes_97 : decode cX9_goes 97 = .ok (.if_icmp .eq 7, 3) := by decide +kernel
theorem dX9_goes_100 : decode cX9_goes 100 = .ok (.iconst 1, 1) := by decide +kernel
theorem dX9_goes_101 : decode cX9_goes 101 = .ok (.goto 4, 3) := by decide +kernel
theorem dX9_goes_104 : decode cX9_goes 104 = .ok (.iconst 0, 1) := by decide +kernel
theorem dX9_goes_105 : decode cX9_goes 105 = .ok (.iadd, 1) := by decide +kernel
theorem dX9_goes_106 : decode cX9_goes 106 = .ok (.iastore, 1) := by decide +kernel
theorem dX9_goes_107 : decode cX9_goes 107 = .ok (.aload_n 0, 1) := by decide +kernel
theorem dX9_goes_108 : decode cX9_goes 108 = .ok (.getfield 7, 3) := by decide +kernel
theorem dX9_goes_111 : decode cX9_goes 111 = .ok (.iload_n 3, 1) := by decide +kernel
theorem dX9_goes_112 : decode cX9_goes 112 = .ok (.bipush 84, 2) := by decide +kernel
theorem dX9_goes_114 : decode cX9_goes 114 = .ok (.iadd, 1) := by decide +kernel
theorem dX9_goes_115 : decode cX9_goes 115 = .ok (.dup2, 1) := by decide +kernel
theorem dX9_goes_116 : decode cX9_goes 116 = .ok (.iaload, 1) := by decide +kernel
theorem dX9_goes_117 : decode cX9_goes 117 = .ok (.iload 7, 2) := by decide +kernel
theorem dX9_goes_119 : decode cX9_goes 119 = .ok (.iload 5, 2) := by decide +kernel
theorem dX9_goes_121 : decode cX9_goes 121 = .ok (.if_icmp .eq 7, 3) := by decide +kernel
theorem dX9_goes_124 : decode cX9_goes 124 = .ok (.iconst 1, 1) := by decide +kernel
theorem dX9_goes_125 : decode cX9_goes 125 = .ok (.goto 4, 3) := by decide +kernel
theorem dX9_goes_128 : decode cX9_goes 128 = .ok (.iconst 0, 1) := by decide +kernel
theorem dX9_goes_129 : decode cX9_goes 129 = .ok (.iadd, 1) := by decide +kernel
theorem dX9_goes_130 : decode cX9_goes 130 = .ok (.iastore, 1) := by decide +kernel
theorem dX9_goes_131 : decode cX9_goes 131 = .ok (.aload_n 0, 1) := by decide +kernel
theorem dX9_goes_132 : decode cX9_goes 132 = .ok (.iload_n 1, 1) := by decide +kernel
theorem dX9_goes_133 : decode cX9_goes 133 = .ok (.invokevirtual 33, 3) := by decide +kernel
theorem dX9_goes_136 : decode cX9_goes 136 = .ok (.iconst 1, 1) := by decide +kernel
theorem dX9_goes_137 : decode cX9_goes 137 = .ok (.isub, 1) := by decide +kernel
theorem dX9_goes_138 : decode cX9_goes 138 = .ok (.istore 8, 2) := by decide +kernel
theorem dX9_goes_140 : decode cX9_goes 140 = .ok (.iload 8, 2) := by decide +kernel
theorem dX9_goes_142 : decode cX9_goes 142 = .ok (.ifCond .le 29, 3) := by decide +kernel
theorem dX9_goes_145 : decode cX9_goes 145 = .ok (.aload_n 0, 1) := by decide +kernel
theorem dX9_goes_146 : decode cX9_goes 146 = .ok (.getfield 7, 3) := by decide +kernel
theorem dX9_goes_149 : decode cX9_goes 149 = .ok (.iload_n 3, 1) := by decide +kernel
theorem dX9_goes_150 : decode cX9_goes 150 = .ok (.iload 8, 2) := by decide +kernel
theorem dX9_goes_152 : decode cX9_goes 152 = .ok (.iadd, 1) := by decide +kernel
theorem dX9_goes_153 : decode cX9_goes 153 = .ok (.aload_n 0, 1) := by decide +kernel
theorem dX9_goes_154 : decode cX9_goes 154 = .ok (.getfield 7, 3) := by decide +kernel
theorem dX9_goes_157 : decode cX9_goes 157 = .ok (.iload_n 3, 1) := by decide +kernel
theorem dX9_goes_158 : decode cX9_goes 158 = .ok (.iload 8, 2) := by decide +kernel
theorem dX9_goes_160 : decode cX9_goes 160 = .ok (.iadd, 1) := by decide +kernel
theorem dX9_goes_161 : decode cX9_goes 161 = .ok (.iconst 1, 1) := by decide +kernel
theorem dX9_goes_162 : decode cX9_goes 162 = .ok (.isub, 1) := by decide +kernel
theorem dX9_goes_163 : decode cX9_goes 163 = .ok (.iaload, 1) := by decide +kernel
theorem dX9_goes_164 : decode cX9_goes 164 = .ok (.iastore, 1) := by decide +kernel
theorem dX9_goes_165 : decode cX9_goes 165 = .ok (.iinc 8 (-1), 3) := by decide +kernel
theorem dX9_goes_168 : decode cX9_goes 168 = .ok (.goto (-28), 3) := by decide +kernel
theorem dX9_goes_171 : decode cX9_goes 171 = .ok (.aload_n 0, 1) := by decide +kernel
theorem dX9_goes_172 : decode cX9_goes 172 = .ok (.getfield 7, 3) := by decide +kernel
theorem dX9_goes_175 : decode cX9_goes 175 = .ok (.iload_n 3, 1) := by decide +kernel
theorem dX9_goes_176 : decode cX9_goes 176 = .ok (.iload 7, 2) := by decide +kernel
theorem dX9_goes_178 : decode cX9_goes 178 = .ok (.iastore, 1) := by decide +kernel
theorem dX9_goes_179 : decode cX9_goes 179 = .ok (.aload_n 0, 1) := by decide +kernel
theorem dX9_goes_180 : decode cX9_goes 180 = .ok (.getfield 7, 3) := by decide +kernel
theorem dX9_goes_183 : decode cX9_goes 183 = .ok (.iload_n 3, 1) := by decide +kernel
theorem dX9_goes_184 : decode cX9_goes 184 = .ok (.bipush 81, 2) := by decide +kernel
theorem dX9_goes_186 : decode cX9_goes 186 = .ok (.iadd, 1) := by decide +kernel
theorem dX9_goes_187 : decode cX9_goes 187 = .ok (.dup2, 1) := by decide +kernel
theorem dX9_goes_188 : decode cX9_goes 188 = .ok (.iaload, 1) := by decide +kernel
theorem dX9_goes_189 : decode cX9_goes 189 = .ok (.iconst 1, 1) := by decide +kernel
theorem dX9_goes_190 : decode cX9_goes 190 = .ok (.iadd, 1) := by decide +kernel
theorem dX9_goes_191 : decode cX9_goes 191 = .ok (.iastore, 1) := by decide +kernel
theorem dX9_goes_192 : decode cX9_goes 192 = .ok (.iload 6, 2) := by decide +kernel
theorem dX9_goes_194 : decode cX9_goes 194 = .ok (.invokestatic 45, 3) := by decide +kernel
theorem dX9_goes_197 : decode cX9_goes 197 = .ok (.istore 8, 2) := by decide +kernel
theorem dX9_goes_199 : decode cX9_goes 199 = .ok (.aload_n 0, 1) := by decide +kernel
theorem dX9_goes_200 : decode cX9_goes 200 = .ok (.getfield 7, 3) := by decide +kernel
theorem dX9_goes_203 : decode cX9_goes 203 = .ok (.iload_n 3, 1) := by decide +kernel
theorem dX9_goes_204 : decode cX9_goes 204 = .ok (.bipush 82, 2) := by decide +kernel
theorem dX9_goes_206 : decode cX9_goes 206 = .ok (.iadd, 1) := by decide +kernel
theorem dX9_goes_207 : decode cX9_goes 207 = .ok (.iload 8, 2) := by decide +kernel
theorem dX9_goes_209 : decode cX9_goes 209 = .ok (.aload_n 0, 1) := by decide +kernel
theorem dX9_goes_210 : decode cX9_goes 210 = .ok (.getfield 7, 3) := by decide +kernel
theorem dX9_goes_213 : decode cX9_goes 213 = .ok (.iload_n 3, 1) := by decide +kernel
theorem dX9_goes_214 : decode cX9_goes 214 = .ok (.bipush 82, 2) := by decide +kernel
theorem dX9_goes_216 : decode cX9_goes 216 = .ok (.iadd, 1) := by decide +kernel
theorem dX9_goes_217 : decode cX9_goes 217 = .ok (.iaload, 1) := by decide +kernel
theorem dX9_goes_218 : decode cX9_goes 218 = .ok (.if_icmp .le 8, 3) := by decide +kernel
theorem dX9_goes_221 : decode cX9_goes 221 = .ok (.iload 8, 2) := by decide +kernel
theorem dX9_goes_223 : decode cX9_goes 223 = .ok (.goto 12, 3) := by decide +kernel
theorem dX9_goes_226 : decode cX9_goes 226 = .ok (.aload_n 0, 1) := by decide +kernel
theorem dX9_goes_227 : decode cX9_goes 227 = .ok (.getfield 7, 3) := by decide +kernel
theorem dX9_goes_230 : decode cX9_goes 230 = .ok (.iload_n 3, 1) := by decide +kernel
theorem dX9_goes_231 : decode cX9_goes 231 = .ok (.bipush 82, 2) := by decide +kernel
theorem dX9_goes_233 : decode cX9_goes 233 = .ok (.iadd, 1) := by decide +kernel
theorem dX9_goes_234 : decode cX9_goes 234 = .ok (.iaload, 1) := by decide +kernel
theorem dX9_goes_235 : decode cX9_goes 235 = .ok (.iastore, 1) := by decide +kernel
theorem dX9_goes_236 : decode cX9_goes 236 = .ok (.aload_n 0, 1) := by decide +kernel
theorem dX9_goes_237 : decode cX9_goes 237 = .ok (.getfield 13, 3) := by decide +kernel
theorem dX9_goes_240 : decode cX9_goes 240 = .ok (.iload_n 1, 1) := by decide +kernel
theorem dX9_goes_241 : decode cX9_goes 241 = .ok (.dup2, 1) := by decide +kernel
theorem dX9_goes_242 : decode cX9_goes 242 = .ok (.laload, 1) := by decide +kernel
theorem dX9_goes_243 : decode cX9_goes 243 = .ok (.iload 8, 2) := by decide +kernel
theorem dX9_goes_245 : decode cX9_goes 245 = .ok (.i2l, 1) := by decide +kernel
theorem dX9_goes_246 : decode cX9_goes 246 = .ok (.ladd, 1) := by decide +kernel
theorem dX9_goes_247 : decode cX9_goes 247 = .ok (.lastore, 1) := by decide +kernel
theorem dX9_goes_248 : decode cX9_goes 248 = .ok (.bipush 11, 2) := by decide +kernel
theorem dX9_goes_250 : decode cX9_goes 250 = .ok (.istore 9, 2) := by decide +kernel
theorem dX9_goes_252 : decode cX9_goes 252 = .ok (.iload 9, 2) := by decide +kernel
theorem dX9_goes_254 : decode cX9_goes 254 = .ok (.ifCond .le 35, 3) := by decide +kernel
theorem dX9_goes_257 : decode cX9_goes 257 = .ok (.aload_n 0, 1) := by decide +kernel
theorem dX9_goes_258 : decode cX9_goes 258 = .ok (.getfield 7, 3) := by decide +kernel
theorem dX9_goes_261 : decode cX9_goes 261 = .ok (.iload_n 3, 1) := by decide +kernel
theorem dX9_goes_262 : decode cX9_goes 262 = .ok (.bipush 85, 2) := by decide +kernel
theorem dX9_goes_264 : decode cX9_goes 264 = .ok (.iadd, 1) := by decide +kernel
theorem dX9_goes_265 : decode cX9_goes 265 = .ok (.iload 9, 2) := by decide +kernel
theorem dX9_goes_267 : decode cX9_goes 267 = .ok (.iadd, 1) := by decide +kernel
theorem dX9_goes_268 : decode cX9_goes 268 = .ok (.aload_n 0, 1) := by decide +kernel
theorem dX9_goes_269 : decode cX9_goes 269 = .ok (.getfield 7, 3) := by decide +kernel
theorem dX9_goes_272 : decode cX9_goes 272 = .ok (.iload_n 3, 1) := by decide +kernel
theorem dX9_goes_273 : decode cX9_goes 273 = .ok (.bipush 85, 2) := by decide +kernel
theorem dX9_goes_275 : decode cX9_goes 275 = .ok (.iadd, 1) := by decide +kernel
theorem dX9_goes_276 : decode cX9_goes 276 = .ok (.iload 9, 2) := by decide +kernel
theorem dX9_goes_278 : decode cX9_goes 278 = .ok (.iadd, 1) := by decide +kernel
theorem dX9_goes_279 : decode cX9_goes 279 = .ok (.iconst 1, 1) := by decide +kernel
theorem dX9_goes_280 : decode cX9_goes 280 = .ok (.isub, 1) := by decide +kernel
theorem dX9_goes_281 : decode cX9_goes 281 = .ok (.iaload, 1) := by decide +kernel
theorem dX9_goes_282 : decode cX9_goes 282 = .ok (.iastore, 1) := by decide +kernel
theorem dX9_goes_283 : decode cX9_goes 283 = .ok (.iinc 9 (-1), 3) := by decide +kernel
theorem dX9_goes_286 : decode cX9_goes 286 = .ok (.goto (-34), 3) := by decide +kernel
theorem dX9_goes_289 : decode cX9_goes 289 = .ok (.aload_n 0, 1) := by decide +kernel
theorem dX9_goes_290 : decode cX9_goes 290 = .ok (.getfield 7, 3) := by decide +kernel
theorem dX9_goes_293 : decode cX9_goes 293 = .ok (.iload_n 3, 1) := by decide +kernel
theorem dX9_goes_294 : decode cX9_goes 294 = .ok (.bipush 85, 2) := by decide +kernel
theorem dX9_goes_296 : decode cX9_goes 296 = .ok (.iadd, 1) := by decide +kernel
theorem dX9_goes_297 : decode cX9_goes 297 = .ok (.iload 6, 2) := by decide +kernel
theorem dX9_goes_299 : decode cX9_goes 299 = .ok (.iastore, 1) := by decide +kernel
theorem dX9_goes_300 : decode cX9_goes 300 = .ok (.aload_n 0, 1) := by decide +kernel
theorem dX9_goes_301 : decode cX9_goes 301 = .ok (.getfield 7, 3) := by decide +kernel
theorem dX9_goes_304 : decode cX9_goes 304 = .ok (.iload_n 3, 1) := by decide +kernel
theorem dX9_goes_305 : decode cX9_goes 305 = .ok (.bipush 97, 2) := by decide +kernel
theorem dX9_goes_307 : decode cX9_goes 307 = .ok (.iadd, 1) := by decide +kernel
theorem dX9_goes_308 : decode cX9_goes 308 = .ok (.dup2, 1) := by decide +kernel
theorem dX9_goes_309 : decode cX9_goes 309 = .ok (.iaload, 1) := by decide +kernel
theorem dX9_goes_310 : decode cX9_goes 310 = .ok (.aload_n 0, 1) := by decide +kernel
theorem dX9_goes_311 : decode cX9_goes 311 = .ok (.getfield 7, 3) := by decide +kernel
theorem dX9_goes_314 : decode cX9_goes 314 = .ok (.iload_n 3, 1) := by decide +kernel
theorem dX9_goes_315 : decode cX9_goes 315 = .ok (.bipush 97, 2) := by decide +kernel
theorem dX9_goes_317 : decode cX9_goes 317 = .ok (.iadd, 1) := by decide +kernel
theorem dX9_goes_318 : decode cX9_goes 318 = .ok (.iaload, 1) := by decide +kernel
theorem dX9_goes_319 : decode cX9_goes 319 = .ok (.bipush 12, 2) := by decide +kernel
theorem dX9_goes_321 : decode cX9_goes 321 = .ok (.if_icmp .ge 7, 3) := by decide +kernel
theorem dX9_goes_324 : decode cX9_goes 324 = .ok (.iconst 1, 1) := by decide +kernel
theorem dX9_goes_325 : decode cX9_goes 325 = .ok (.goto 4, 3) := by decide +kernel
theorem dX9_goes_328 : decode cX9_goes 328 = .ok (.iconst 0, 1) := by decide +kernel
theorem dX9_goes_329 : decode cX9_goes 329 = .ok (.iadd, 1) := by decide +kernel
theorem dX9_goes_330 : decode cX9_goes 330 = .ok (.iastore, 1) := by decide +kernel
theorem dX9_goes_331 : decode cX9_goes 331 = .ok (.iload 6, 2) := by decide +kernel
theorem dX9_goes_333 : decode cX9_goes 333 = .ok (.ireturn, 1) := by decide +kernel
theorem dX9_greatestWord_0 : decode cX9_greatestWord 0 = .ok (.iconst 0, 1) := by decide +kernel
theorem dX9_greatestWord_1 : decode cX9_greatestWord 1 = .ok (.istore_n 2, 1) := by decide +kernel
theorem dX9_greatestWord_2 : decode cX9_greatestWord 2 = .ok (.iconst 0, 1) := by decide +kernel
theorem dX9_greatestWord_3 : decode cX9_greatestWord 3 = .ok (.istore_n 3, 1) := by decide +kernel
theorem dX9_greatestWord_4 : decode cX9_greatestWord 4 = .ok (.iload_n 3, 1) := by decide +kernel
theorem dX9_greatestWord_5 : decode cX9_greatestWord 5 = .ok (.aload_n 0, 1) := by decide +kernel
theorem dX9_greatestWord_6 : decode cX9_greatestWord 6 = .ok (.iload_n 1, 1) := by decide +kernel
theorem dX9_greatestWord_7 : decode cX9_greatestWord 7 = .ok (.invokevirtual 33, 3) := by decide +kernel
theorem dX9_greatestWord_10 : decode cX9_greatestWord 10 = .ok (.if_icmp .ge 38, 3) := by decide +kernel
theorem dX9_greatestWord_13 : decode cX9_greatestWord 13 = .ok (.aload_n 0, 1) := by decide +kernel
theorem dX9_greatestWord_14 : decode cX9_greatestWord 14 = .ok (.getfield 7, 3) := by decide +kernel
theorem dX9_greatestWord_17 : decode cX9_greatestWord 17 = .ok (.bipush 100, 2) := by decide +kernel
theorem dX9_greatestWord_19 : decode cX9_greatestWord 19 = .ok (.iload_n 1, 1) := by decide +kernel
theorem dX9_greatestWord_20 : decode cX9_greatestWord 20 = .ok (.imul, 1) := by decide +kernel
theorem dX9_greatestWord_21 : decode cX9_greatestWord 21 = .ok (.iload_n 3, 1) := by decide +kernel
theorem dX9_greatestWord_22 : decode cX9_greatestWord 22 = .ok (.iadd, 1) := by decide +kernel
theorem dX9_greatestWord_23 : decode cX9_greatestWord 23 = .ok (.iaload, 1) := by decide +kernel
theorem dX9_greatestWord_24 : decode cX9_greatestWord 24 = .ok (.invokestatic 45, 3) := by decide +kernel
theorem dX9_greatestWord_27 : decode cX9_greatestWord 27 = .ok (.istore 4, 2) := by decide +kernel
theorem dX9_greatestWord_29 : decode cX9_greatestWord 29 = .ok (.iload 4, 2) := by decide +kernel
theorem dX9_greatestWord_31 : decode cX9_greatestWord 31 = .ok (.iload_n 2, 1) := by decide +kernel
theorem dX9_greatestWord_32 : decode cX9_greatestWord 32 = .ok (.if_icmp .le 8, 3) := by decide +kernel
theorem dX9_greatestWord_35 : decode cX9_greatestWord 35 = .ok (.iload 4, 2) := by decide +kernel
theorem dX9_greatestWord_37 : decode cX9_greatestWord 37 = .ok (.goto 4, 3) := by decide +kernel
theorem dX9_greatestWord_40 : decode cX9_greatestWord 40 = .ok (.iload_n 2, 1) := by decide +kernel
theorem dX9_greatestWord_41 : decode cX9_greatestWord 41 = .ok (.istore_n 2, 1) := by decide +kernel
theorem dX9_greatestWord_42 : decode cX9_greatestWord 42 = .ok (.iinc 3 1, 3) := by decide +kernel
theorem dX9_greatestWord_45 : decode cX9_greatestWord 45 = .ok (.goto (-41), 3) := by decide +kernel
theorem dX9_greatestWord_48 : decode cX9_greatestWord 48 = .ok (.iload_n 2, 1) := by decide +kernel
theorem dX9_greatestWord_49 : decode cX9_greatestWord 49 = .ok (.ireturn, 1) := by decide +kernel
theorem dX9_doSample_0 : decode cX9_doSample 0 = .ok (.iload_n 1, 1) := by decide +kernel
theorem dX9_doSample_1 : decode cX9_doSample 1 = .ok (.sipush (-20000), 3) := by decide +kernel
theorem dX9_doSample_4 : decode cX9_doSample 4 = .ok (.sipush 20000, 3) := by decide +kernel
theorem dX9_doSample_7 : decode cX9_doSample 7 = .ok (.invokestatic 54, 3) := by decide +kernel
theorem dX9_doSample_10 : decode cX9_doSample 10 = .ok (.ifCond .eq 12, 3) := by decide +kernel
theorem dX9_doSample_13 : decode cX9_doSample 13 = .ok (.aload_n 0, 1) := by decide +kernel
theorem dX9_doSample_14 : decode cX9_doSample 14 = .ok (.iconst 0, 1) := by decide +kernel
theorem dX9_doSample_15 : decode cX9_doSample 15 = .ok (.iload_n 1, 1) := by decide +kernel
theorem dX9_doSample_16 : decode cX9_doSample 16 = .ok (.invokevirtual 58, 3) := by decide +kernel
theorem dX9_doSample_19 : decode cX9_doSample 19 = .ok (.goto 5, 3) := by decide +kernel
theorem dX9_doSample_22 : decode cX9_doSample 22 = .ok (.ldc 28, 2) := by decide +kernel
theorem dX9_doSample_24 : decode cX9_doSample 24 = .ok (.ireturn, 1) := by decide +kernel
theorem dX9_doSilence_0 : decode cX9_doSilence 0 = .ok (.iload_n 1, 1) := by decide +kernel
theorem dX9_doSilence_1 : decode cX9_doSilence 1 = .ok (.iconst 1, 1) := by decide +kernel
theorem dX9_doSilence_2 : decode cX9_doSilence 2 = .ok (.sipush 200, 3) := by decide +kernel
theorem dX9_doSilence_5 : decode cX9_doSilence 5 = .ok (.invokestatic 54, 3) := by decide +kernel
theorem dX9_doSilence_8 : decode cX9_doSilence 8 = .ok (.ifCond .ne 6, 3) := by decide +kernel
theorem dX9_doSilence_11 : decode cX9_doSilence 11 = .ok (.ldc 28, 2) := by decide +kernel
theorem dX9_doSilence_13 : decode cX9_doSilence 13 = .ok (.ireturn, 1) := by decide +kernel
theorem dX9_doSilence_14 : decode cX9_doSilence 14 = .ok (.iconst 0, 1) := by decide +kernel
theorem dX9_doSilence_15 : decode cX9_doSilence 15 = .ok (.istore_n 2, 1) := by decide +kernel
theorem dX9_doSilence_16 : decode cX9_doSilence 16 = .ok (.iconst 0, 1) := by decide +kernel
theorem dX9_doSilence_17 : decode cX9_doSilence 17 = .ok (.istore_n 3, 1) := by decide +kernel
theorem dX9_doSilence_18 : decode cX9_doSilence 18 = .ok (.iload_n 3, 1) := by decide +kernel
theorem dX9_doSilence_19 : decode cX9_doSilence 19 = .ok (.iload_n 1, 1) := by decide +kernel
theorem dX9_doSilence_20 : decode cX9_doSilence 20 = .ok (.if_icmp .ge 33, 3) := by decide +kernel
theorem dX9_doSilence_23 : decode cX9_doSilence 23 = .ok (.aload_n 0, 1) := by decide +kernel
theorem dX9_doSilence_24 : decode cX9_doSilence 24 = .ok (.iconst 0, 1) := by decide +kernel
theorem dX9_doSilence_25 : decode cX9_doSilence 25 = .ok (.iconst 0, 1) := by decide +kernel
theorem dX9_doSilence_26 : decode cX9_doSilence 26 = .ok (.invokevirtual 58, 3) := by decide +kernel
theorem dX9_doSilence_29 : decode cX9_doSilence 29 = .ok (.invokestatic 45, 3) := by decide +kernel
theorem dX9_doSilence_32 : decode cX9_doSilence 32 = .ok (.istore 4, 2) := by decide +kernel
theorem dX9_doSilence_34 : decode cX9_doSilence 34 = .ok (.iload 4, 2) := by decide +kernel
theorem dX9_doSilence_36 : decode cX9_doSilence 36 = .ok (.iload_n 2, 1) := by decide +kernel
theorem dX9_doSilence_37 : decode cX9_doSilence 37 = .ok (.if_icmp .le 8, 3) := by decide +kernel
theorem dX9_doSilence_40 : decode cX9_doSilence 40 = .ok (.iload 4, 2) := by decide +kernel
theorem dX9_doSilence_42 : decode cX9_doSilence 42 = .ok (.goto 4, 3) := by decide +kernel
theorem dX9_doSilence_45 : decode cX9_doSilence 45 = .ok (.iload_n 2, 1) := by decide +kernel
theorem dX9_doSilence_46 : decode cX9_doSilence 46 = .ok (.istore_n 2, 1) := by decide +kernel
theorem dX9_doSilence_47 : decode cX9_doSilence 47 = .ok (.iinc 3 1, 3) := by decide +kernel
theorem dX9_doSilence_50 : decode cX9_doSilence 50 = .ok (.goto (-32), 3) := by decide +kernel
theorem dX9_doSilence_53 : decode cX9_doSilence 53 = .ok (.iload_n 2, 1) := by decide +kernel
theorem dX9_doSilence_54 : decode cX9_doSilence 54 = .ok (.ireturn, 1) := by decide +kernel
theorem dX9_doTap_0 : decode cX9_doTap 0 = .ok (.iload_n 1, 1) := by decide +kernel
theorem dX9_doTap_1 : decode cX9_doTap 1 = .ok (.iconst 0, 1) := by decide +kernel
theorem dX9_doTap_2 : decode cX9_doTap 2 = .ok (.iconst 3, 1) := by decide +kernel
theorem dX9_doTap_3 : decode cX9_doTap 3 = .ok (.invokestatic 54, 3) := by decide +kernel
theorem dX9_doTap_6 : decode cX9_doTap 6 = .ok (.ifCond .eq 26, 3) := by decide +kernel
theorem dX9_doTap_9 : decode cX9_doTap 9 = .ok (.iload_n 2, 1) := by decide +kernel
theorem dX9_doTap_10 : decode cX9_doTap 10 = .ok (.iconst 1, 1) := by decide +kernel
theorem dX9_doTap_11 : decode cX9_doTap 11 = .ok (.bipush 64, 2) := by decide +kernel
theorem dX9_doTap_13 : decode cX9_doTap 13 = .ok (.invokestatic 54, 3) := by decide +kernel
theorem dX9_doTap_16 : decode cX9_doTap 16 = .ok (.ifCond .eq 16, 3) := by decide +kernel
theorem dX9_doTap_19 : decode cX9_doTap 19 = .ok (.iload_n 3, 1) := by decide +kernel
theorem dX9_doTap_20 : decode cX9_doTap 20 = .ok (.sipush (-900), 3) := by decide +kernel
theorem dX9_doTap_23 : decode cX9_doTap 23 = .ok (.sipush 900, 3) := by decide +kernel
theorem dX9_doTap_26 : decode cX9_doTap 26 = .ok (.invokestatic 54, 3) := by decide +kernel
theorem dX9_doTap_29 : decode cX9_doTap 29 = .ok (.ifCond .ne 6, 3) := by decide +kernel
theorem dX9_doTap_32 : decode cX9_doTap 32 = .ok (.ldc 28, 2) := by decide +kernel
theorem dX9_doTap_34 : decode cX9_doTap 34 = .ok (.ireturn, 1) := by decide +kernel
theorem dX9_doTap_35 : decode cX9_doTap 35 = .ok (.aload_n 0, 1) := by decide +kernel
theorem dX9_doTap_36 : decode cX9_doTap 36 = .ok (.getfield 7, 3) := by decide +kernel
theorem dX9_doTap_39 : decode cX9_doTap 39 = .ok (.bipush 65, 2) := by decide +kernel
theorem dX9_doTap_41 : decode cX9_doTap 41 = .ok (.iload_n 1, 1) := by decide +kernel
theorem dX9_doTap_42 : decode cX9_doTap 42 = .ok (.iadd, 1) := by decide +kernel
theorem dX9_doTap_43 : decode cX9_doTap 43 = .ok (.iconst 1, 1) := by decide +kernel
theorem dX9_doTap_44 : decode cX9_doTap 44 = .ok (.iastore, 1) := by decide +kernel
theorem dX9_doTap_45 : decode cX9_doTap 45 = .ok (.aload_n 0, 1) := by decide +kernel
theorem dX9_doTap_46 : decode cX9_doTap 46 = .ok (.getfield 7, 3) := by decide +kernel
theorem dX9_doTap_49 : decode cX9_doTap 49 = .ok (.bipush 69, 2) := by decide +kernel
theorem dX9_doTap_51 : decode cX9_doTap 51 = .ok (.iload_n 1, 1) := by decide +kernel
theorem dX9_doTap_52 : decode cX9_doTap 52 = .ok (.iadd, 1) := by decide +kernel
theorem dX9_doTap_53 : decode cX9_doTap 53 = .ok (.iload_n 2, 1) := by decide +kernel
theorem dX9_doTap_54 : decode cX9_doTap 54 = .ok (.iastore, 1) := by decide +kernel
theorem dX9_doTap_55 : decode cX9_doTap 55 = .ok (.aload_n 0, 1) := by decide +kernel
theorem dX9_doTap_56 : decode cX9_doTap 56 = .ok (.getfield 7, 3) := by decide +kernel
theorem dX9_doTap_59 : decode cX9_doTap 59 = .ok (.bipush 74, 2) := by decide +kernel
theorem dX9_doTap_61 : decode cX9_doTap 61 = .ok (.iload_n 1, 1) := by decide +kernel
theorem dX9_doTap_62 : decode cX9_doTap 62 = .ok (.iadd, 1) := by decide +kernel
theorem dX9_doTap_63 : decode cX9_doTap 63 = .ok (.iload_n 3, 1) := by decide +kernel
theorem dX9_doTap_64 : decode cX9_doTap 64 = .ok (.iastore, 1) := by decide +kernel
theorem dX9_doTap_65 : decode cX9_doTap 65 = .ok (.aload_n 0, 1) := by decide +kernel
theorem dX9_doTap_66 : decode cX9_doTap 66 = .ok (.iconst 0, 1) := by decide +kernel
theorem dX9_doTap_67 : decode cX9_doTap 67 = .ok (.iload_n 1, 1) := by decide +kernel
theorem dX9_doTap_68 : decode cX9_doTap 68 = .ok (.invokevirtual 37, 3) := by decide +kernel
theorem dX9_doTap_71 : decode cX9_doTap 71 = .ok (.ifCond .eq 7, 3) := by decide +kernel
theorem dX9_doTap_74 : decode cX9_doTap 74 = .ok (.iconst 1, 1) := by decide +kernel
theorem dX9_doTap_75 : decode cX9_doTap 75 = .ok (.goto 4, 3) := by decide +kernel
theorem dX9_doTap_78 : decode cX9_doTap 78 = .ok (.iconst 0, 1) := by decide +kernel
theorem dX9_doTap_79 : decode cX9_doTap 79 = .ok (.ireturn, 1) := by decide +kernel
theorem dX9_doFeedback_0 : decode cX9_doFeedback 0 = .ok (.iload_n 1, 1) := by decide +kernel
theorem dX9_doFeedback_1 : decode cX9_doFeedback 1 = .ok (.iconst 1, 1) := by decide +kernel
theorem dX9_doFeedback_2 : decode cX9_doFeedback 2 = .ok (.bipush 64, 2) := by decide +kernel
theorem dX9_doFeedback_4 : decode cX9_doFeedback 4 = .ok (.invokestatic 54, 3) := by decide +kernel
theorem dX9_doFeedback_7 : decode cX9_doFeedback 7 = .ok (.ifCond .eq 14, 3) := by decide +kernel
theorem dX9_doFeedback_10 : decode cX9_doFeedback 10 = .ok (.iload_n 2, 1) := by decide +kernel
theorem dX9_doFeedback_11 : decode cX9_doFeedback 11 = .ok (.iconst 0, 1) := by decide +kernel
theorem dX9_doFeedback_12 : decode cX9_doFeedback 12 = .ok (.sipush 950, 3) := by decide +kernel
theorem dX9_doFeedback_15 : decode cX9_doFeedback 15 = .ok (.invokestatic 54, 3) := by decide +kernel
theorem dX9_doFeedback_18 : decode cX9_doFeedback 18 = .ok (.ifCond .ne 6, 3) := by decide +kernel
theorem dX9_doFeedback_21 : decode cX9_doFeedback 21 = .ok (.ldc 28, 2) := by decide +kernel
theorem dX9_doFeedback_23 : decode cX9_doFeedback 23 = .ok (.ireturn, 1) := by decide +kernel
theorem dX9_doFeedback_24 : decode cX9_doFeedback 24 = .ok (.aload_n 0, 1) := by decide +kernel
theorem dX9_doFeedback_25 : decode cX9_doFeedback 25 = .ok (.getfield 7, 3) := by decide +kernel
theorem dX9_doFeedback_28 : decode cX9_doFeedback 28 = .ok (.bipush 78, 2) := by decide +kernel
theorem dX9_doFeedback_30 : decode cX9_doFeedback 30 = .ok (.iaload, 1) := by decide +kernel
theorem dX9_doFeedback_31 : decode cX9_doFeedback 31 = .ok (.istore_n 3, 1) := by decide +kernel
theorem dX9_doFeedback_32 : decode cX9_doFeedback 32 = .ok (.aload_n 0, 1) := by decide +kernel
theorem dX9_doFeedback_33 : decode cX9_doFeedback 33 = .ok (.getfield 7, 3) := by decide +kernel
theorem dX9_doFeedback_36 : decode cX9_doFeedback 36 = .ok (.bipush 73, 2) := by decide +kernel
theorem dX9_doFeedback_38 : decode cX9_doFeedback 38 = .ok (.iload_n 1, 1) := by decide +kernel
theorem dX9_doFeedback_39 : decode cX9_doFeedback 39 = .ok (.iastore, 1) := by decide +kernel
theorem dX9_doFeedback_40 : decode cX9_doFeedback 40 = .ok (.aload_n 0, 1) := by decide +kernel
theorem dX9_doFeedback_41 : decode cX9_doFeedback 41 = .ok (.getfield 7, 3) := by decide +kernel
theorem dX9_doFeedback_44 : decode cX9_doFeedback 44 = .ok (.bipush 78, 2) := by decide +kernel
theorem dX9_doFeedback_46 : decode cX9_doFeedback 46 = .ok (.iload_n 2, 1) := by decide +kernel
theorem dX9_doFeedback_47 : decode cX9_doFeedback 47 = .ok (.iastore, 1) := by decide +kernel
theorem dX9_doFeedback_48 : decode cX9_doFeedback 48 = .ok (.iload_n 3, 1) := by decide +kernel
theorem dX9_doFeedback_49 : decode cX9_doFeedback 49 = .ok (.ireturn, 1) := by decide +kernel
theorem dX9_doSteal_0 : decode cX9_doSteal 0 = .ok (.iload_n 1, 1) := by decide +kernel
theorem dX9_doSteal_1 : decode cX9_doSteal 1 = .ok (.iconst 1, 1) := by decide +kernel
theorem dX9_doSteal_2 : decode cX9_doSteal 2 = .ok (.bipush 48, 2) := by decide +kernel
theorem dX9_doSteal_4 : decode cX9_doSteal 4 = .ok (.invokestatic 54, 3) := by decide +kernel
theorem dX9_doSteal_7 : decode cX9_doSteal 7 = .ok (.ifCond .ne 6, 3) := by decide +kernel
theorem dX9_doSteal_10 : decode cX9_doSteal 10 = .ok (.ldc 28, 2) := by decide +kernel
theorem dX9_doSteal_12 : decode cX9_doSteal 12 = .ok (.ireturn, 1) := by decide +kernel
theorem dX9_doSteal_13 : decode cX9_doSteal 13 = .ok (.aload_n 0, 1) := by decide +kernel
theorem dX9_doSteal_14 : decode cX9_doSteal 14 = .ok (.getfield 7, 3) := by decide +kernel
theorem dX9_doSteal_17 : decode cX9_doSteal 17 = .ok (.bipush 64, 2) := by decide +kernel
theorem dX9_doSteal_19 : decode cX9_doSteal 19 = .ok (.iaload, 1) := by decide +kernel
theorem dX9_doSteal_20 : decode cX9_doSteal 20 = .ok (.iload_n 1, 1) := by decide +kernel
theorem dX9_doSteal_21 : decode cX9_doSteal 21 = .ok (.iadd, 1) := by decide +kernel
theorem dX9_doSteal_22 : decode cX9_doSteal 22 = .ok (.bipush 48, 2) := by decide +kernel
theorem dX9_doSteal_24 : decode cX9_doSteal 24 = .ok (.if_icmp .le 6, 3) := by decide +kernel
theorem dX9_doSteal_27 : decode cX9_doSteal 27 = .ok (.ldc 61, 2) := by decide +kernel
theorem dX9_doSteal_29 : decode cX9_doSteal 29 = .ok (.ireturn, 1) := by decide +kernel
theorem dX9_doSteal_30 : decode cX9_doSteal 30 = .ok (.aload_n 0, 1) := by decide +kernel
theorem dX9_doSteal_31 : decode cX9_doSteal 31 = .ok (.getfield 7, 3) := by decide +kernel
theorem dX9_doSteal_34 : decode cX9_doSteal 34 = .ok (.bipush 64, 2) := by decide +kernel
theorem dX9_doSteal_36 : decode cX9_doSteal 36 = .ok (.dup2, 1) := by decide +kernel
theorem dX9_doSteal_37 : decode cX9_doSteal 37 = .ok (.iaload, 1) := by decide +kernel
theorem dX9_doSteal_38 : decode cX9_doSteal 38 = .ok (.iload_n 1, 1) := by decide +kernel
theorem dX9_doSteal_39 : decode cX9_doSteal 39 = .ok (.iadd, 1) := by decide +kernel
theorem dX9_doSteal_40 : decode cX9_doSteal 40 = .ok (.iastore, 1) := by decide +kernel
theorem dX9_doSteal_41 : decode cX9_doSteal 41 = .ok (.aload_n 0, 1) := by decide +kernel
theorem dX9_doSteal_42 : decode cX9_doSteal 42 = .ok (.getfield 7, 3) := by decide +kernel
theorem dX9_doSteal_45 : decode cX9_doSteal 45 = .ok (.bipush 98, 2) := by decide +kernel
theorem dX9_doSteal_47 : decode cX9_doSteal 47 = .ok (.dup2, 1) := by decide +kernel
theorem dX9_doSteal_48 : decode cX9_doSteal 48 = .ok (.iaload, 1) := by decide +kernel
theorem dX9_doSteal_49 : decode cX9_doSteal 49 = .ok (.iload_n 1, 1) := by decide +kernel
theorem dX9_doSteal_50 : decode cX9_doSteal 50 = .ok (.iadd, 1) := by decide +kernel
theorem dX9_doSteal_51 : decode cX9_doSteal 51 = .ok (.iastore, 1) := by decide +kernel
theorem dX9_doSteal_52 : decode cX9_doSteal 52 = .ok (.aload_n 0, 1) := by decide +kernel
theorem dX9_doSteal_53 : decode cX9_doSteal 53 = .ok (.iconst 0, 1) := by decide +kernel
theorem dX9_doSteal_54 : decode cX9_doSteal 54 = .ok (.invokevirtual 33, 3) := by decide +kernel
theorem dX9_doSteal_57 : decode cX9_doSteal 57 = .ok (.istore_n 2, 1) := by decide +kernel
theorem dX9_doSteal_58 : decode cX9_doSteal 58 = .ok (.iload_n 2, 1) := by decide +kernel
theorem dX9_doSteal_59 : decode cX9_doSteal 59 = .ok (.bipush 64, 2) := by decide +kernel
theorem dX9_doSteal_61 : decode cX9_doSteal 61 = .ok (.if_icmp .ge 16, 3) := by decide +kernel
theorem dX9_doSteal_64 : decode cX9_doSteal 64 = .ok (.aload_n 0, 1) := by decide +kernel
theorem dX9_doSteal_65 : decode cX9_doSteal 65 = .ok (.getfield 7, 3) := by decide +kernel
theorem dX9_doSteal_68 : decode cX9_doSteal 68 = .ok (.iload_n 2, 1) := by decide +kernel
theorem dX9_doSteal_69 : decode cX9_doSteal 69 = .ok (.iconst 0, 1) := by decide +kernel
theorem dX9_doSteal_70 : decode cX9_doSteal 70 = .ok (.iastore, 1) := by decide +kernel
theorem dX9_doSteal_71 : decode cX9_doSteal 71 = .ok (.iinc 2 1, 3) := by decide +kernel
theorem dX9_doSteal_74 : decode cX9_doSteal 74 = .ok (.goto (-16), 3) := by decide +kernel
theorem dX9_doSteal_77 : decode cX9_doSteal 77 = .ok (.aload_n 0, 1) := by decide +kernel
theorem dX9_doSteal_78 : decode cX9_doSteal 78 = .ok (.iconst 0, 1) := by decide +kernel
theorem dX9_doSteal_79 : decode cX9_doSteal 79 = .ok (.invokevirtual 33, 3) := by decide +kernel
theorem dX9_doSteal_82 : decode cX9_doSteal 82 = .ok (.ireturn, 1) := by decide +kernel
theorem dX9_doGive_0 : decode cX9_doGive 0 = .ok (.iload_n 1, 1) := by decide +kernel
theorem dX9_doGive_1 : decode cX9_doGive 1 = .ok (.iconst 1, 1) := by decide +kernel
theorem dX9_doGive_2 : decode cX9_doGive 2 = .ok (.bipush 48, 2) := by decide +kernel
theorem dX9_doGive_4 : decode cX9_doGive 4 = .ok (.invokestatic 54, 3) := by decide +kernel
theorem dX9_doGive_7 : decode cX9_doGive 7 = .ok (.ifCond .ne 6, 3) := by decide +kernel
theorem dX9_doGive_10 : decode cX9_doGive 10 = .ok (.ldc 28, 2) := by decide +kernel
theorem dX9_doGive_12 : decode cX9_doGive 12 = .ok (.ireturn, 1) := by decide +kernel
theorem dX9_doGive_13 : decode cX9_doGive 13 = .ok (.aload_n 0, 1) := by decide +kernel
theorem dX9_doGive_14 : decode cX9_doGive 14 = .ok (.getfield 7, 3) := by decide +kernel
theorem dX9_doGive_17 : decode cX9_doGive 17 = .ok (.bipush 64, 2) := by decide +kernel
theorem dX9_doGive_19 : decode cX9_doGive 19 = .ok (.iaload, 1) := by decide +kernel
theorem dX9_doGive_20 : decode cX9_doGive 20 = .ok (.iload_n 1, 1) := by decide +kernel
theorem dX9_doGive_21 : decode cX9_doGive 21 = .ok (.if_icmp .ge 6, 3) := by decide +kernel
theorem dX9_doGive_24 : decode cX9_doGive 24 = .ok (.ldc 62, 2) := by decide +kernel
theorem dX9_doGive_26 : decode cX9_doGive 26 = .ok (.ireturn, 1) := by decide +kernel
theorem dX9_doGive_27 : decode cX9_doGive 27 = .ok (.aload_n 0, 1) := by decide +kernel
theorem dX9_doGive_28 : decode cX9_doGive 28 = .ok (.getfield 7, 3) := by decide +kernel
theorem dX9_doGive_31 : decode cX9_doGive 31 = .ok (.bipush 64, 2) := by decide +kernel
theorem dX9_doGive_33 : decode cX9_doGive 33 = .ok (.dup2, 1) := by decide +kernel
theorem dX9_doGive_34 : decode cX9_doGive 34 = .ok (.iaload, 1) := by decide +kernel
theorem dX9_doGive_35 : decode cX9_doGive 35 = .ok (.iload_n 1, 1) := by decide +kernel
theorem dX9_doGive_36 : decode cX9_doGive 36 = .ok (.isub, 1) := by decide +kernel
theorem dX9_doGive_37 : decode cX9_doGive 37 = .ok (.iastore, 1) := by decide +kernel
theorem dX9_doGive_38 : decode cX9_doGive 38 = .ok (.aload_n 0, 1) := by decide +kernel
theorem dX9_doGive_39 : decode cX9_doGive 39 = .ok (.iconst 0, 1) := by decide +kernel
theorem dX9_doGive_40 : decode cX9_doGive 40 = .ok (.invokevirtual 33, 3) := by decide +kernel
theorem dX9_doGive_43 : decode cX9_doGive 43 = .ok (.ireturn, 1) := by decide +kernel
theorem dX9_sample_0 : decode cX9_sample 0 = .ok (.aload_n 0, 1) := by decide +kernel
theorem dX9_sample_1 : decode cX9_sample 1 = .ok (.invokevirtual 63, 3) := by decide +kernel
theorem dX9_sample_4 : decode cX9_sample 4 = .ok (.aload_n 0, 1) := by decide +kernel
theorem dX9_sample_5 : decode cX9_sample 5 = .ok (.aload_n 0, 1) := by decide +kernel
theorem dX9_sample_6 : decode cX9_sample 6 = .ok (.iload_n 1, 1) := by decide +kernel
theorem dX9_sample_7 : decode cX9_sample 7 = .ok (.invokevirtual 66, 3) := by decide +kernel
theorem dX9_sample_10 : decode cX9_sample 10 = .ok (.invokevirtual 69, 3) := by decide +kernel
theorem dX9_sample_13 : decode cX9_sample 13 = .ok (.ireturn, 1) := by decide +kernel
theorem dX9_silence_0 : decode cX9_silence 0 = .ok (.aload_n 0, 1) := by decide +kernel
theorem dX9_silence_1 : decode cX9_silence 1 = .ok (.invokevirtual 63, 3) := by decide +kernel
theorem dX9_silence_4 : decode cX9_silence 4 = .ok (.aload_n 0, 1) := by decide +kernel
theorem dX9_silence_5 : decode cX9_silence 5 = .ok (.aload_n 0, 1) := by decide +kernel
theorem dX9_silence_6 : decode cX9_silence 6 = .ok (.iload_n 1, 1) := by decide +kernel
theorem dX9_silence_7 : decode cX9_silence 7 = .ok (.invokevirtual 72, 3) := by decide +kernel
theorem dX9_silence_10 : decode cX9_silence 10 = .ok (.invokevirtual 69, 3) := by decide +kernel
theorem dX9_silence_13 : decode cX9_silence 13 = .ok (.ireturn, 1) := by decide +kernel
theorem dX9_tap_0 : decode cX9_tap 0 = .ok (.aload_n 0, 1) := by decide +kernel
theorem dX9_tap_1 : decode cX9_tap 1 = .ok (.invokevirtual 63, 3) := by decide +kernel
theorem dX9_tap_4 : decode cX9_tap 4 = .ok (.aload_n 0, 1) := by decide +kernel
theorem dX9_tap_5 : decode cX9_tap 5 = .ok (.aload_n 0, 1) := by decide +kernel
theorem dX9_tap_6 : decode cX9_tap 6 = .ok (.iload_n 1, 1) := by decide +kernel
theorem dX9_tap_7 : decode cX9_tap 7 = .ok (.iload_n 2, 1) := by decide +kernel
theorem dX9_tap_8 : decode cX9_tap 8 = .ok (.iload_n 3, 1) := by decide +kernel
theorem dX9_tap_9 : decode cX9_tap 9 = .ok (.invokevirtual 75, 3) := by decide +kernel
theorem dX9_tap_12 : decode cX9_tap 12 = .ok (.invokevirtual 69, 3) := by decide +kernel
theorem dX9_tap_15 : decode cX9_tap 15 = .ok (.ireturn, 1) := by decide +kernel
theorem dX9_off_0 : decode cX9_off 0 = .ok (.iload_n 1, 1) := by decide +kernel
theorem dX9_off_1 : decode cX9_off 1 = .ok (.iconst 0, 1) := by decide +kernel
theorem dX9_off_2 : decode cX9_off 2 = .ok (.iconst 3, 1) := by decide +kernel
theorem dX9_off_3 : decode cX9_off 3 = .ok (.invokestatic 54, 3) := by decide +kernel
theorem dX9_off_6 : decode cX9_off 6 = .ok (.ifCond .ne 6, 3) := by decide +kernel
theorem dX9_off_9 : decode cX9_off 9 = .ok (.ldc 28, 2) := by decide +kernel
theorem dX9_off_11 : decode cX9_off 11 = .ok (.ireturn, 1) := by decide +kernel
theorem dX9_off_12 : decode cX9_off 12 = .ok (.aload_n 0, 1) := by decide +kernel
theorem dX9_off_13 : decode cX9_off 13 = .ok (.getfield 7, 3) := by decide +kernel
theorem dX9_off_16 : decode cX9_off 16 = .ok (.bipush 65, 2) := by decide +kernel
theorem dX9_off_18 : decode cX9_off 18 = .ok (.iload_n 1, 1) := by decide +kernel
theorem dX9_off_19 : decode cX9_off 19 = .ok (.iadd, 1) := by decide +kernel
theorem dX9_off_20 : decode cX9_off 20 = .ok (.iaload, 1) := by decide +kernel
theorem dX9_off_21 : decode cX9_off 21 = .ok (.ifCond .ne 6, 3) := by decide +kernel
theorem dX9_off_24 : decode cX9_off 24 = .ok (.ldc 62, 2) := by decide +kernel
theorem dX9_off_26 : decode cX9_off 26 = .ok (.ireturn, 1) := by decide +kernel
theorem dX9_off_27 : decode cX9_off 27 = .ok (.aload_n 0, 1) := by decide +kernel
theorem dX9_off_28 : decode cX9_off 28 = .ok (.invokevirtual 63, 3) := by decide +kernel
theorem dX9_off_31 : decode cX9_off 31 = .ok (.aload_n 0, 1) := by decide +kernel
theorem dX9_off_32 : decode cX9_off 32 = .ok (.getfield 7, 3) := by decide +kernel
theorem dX9_off_35 : decode cX9_off 35 = .ok (.bipush 65, 2) := by decide +kernel
theorem dX9_off_37 : decode cX9_off 37 = .ok (.iload_n 1, 1) := by decide +kernel
theorem dX9_off_38 : decode cX9_off 38 = .ok (.iadd, 1) := by decide +kernel
theorem dX9_off_39 : decode cX9_off 39 = .ok (.iconst 0, 1) := by decide +kernel
theorem dX9_off_40 : decode cX9_off 40 = .ok (.iastore, 1) := by decide +kernel
theorem dX9_off_41 : decode cX9_off 41 = .ok (.aload_n 0, 1) := by decide +kernel
theorem dX9_off_42 : decode cX9_off 42 = .ok (.aload_n 0, 1) := by decide +kernel
theorem dX9_off_43 : decode cX9_off 43 = .ok (.getfield 7, 3) := by decide +kernel
theorem dX9_off_46 : decode cX9_off 46 = .ok (.bipush 69, 2) := by decide +kernel
theorem dX9_off_48 : decode cX9_off 48 = .ok (.iload_n 1, 1) := by decide +kernel
theorem dX9_off_49 : decode cX9_off 49 = .ok (.iadd, 1) := by decide +kernel
theorem dX9_off_50 : decode cX9_off 50 = .ok (.iaload, 1) := by decide +kernel
theorem dX9_off_51 : decode cX9_off 51 = .ok (.invokevirtual 69, 3) := by decide +kernel
theorem dX9_off_54 : decode cX9_off 54 = .ok (.ireturn, 1) := by decide +kernel
theorem dX9_feedback_0 : decode cX9_feedback 0 = .ok (.aload_n 0, 1) := by decide +kernel
theorem dX9_feedback_1 : decode cX9_feedback 1 = .ok (.invokevirtual 63, 3) := by decide +kernel
theorem dX9_feedback_4 : decode cX9_feedback 4 = .ok (.aload_n 0, 1) := by decide +kernel
theorem dX9_feedback_5 : decode cX9_feedback 5 = .ok (.aload_n 0, 1) := by decide +kernel
theorem dX9_feedback_6 : decode cX9_feedback 6 = .ok (.iload_n 1, 1) := by decide +kernel
theorem dX9_feedback_7 : decode cX9_feedback 7 = .ok (.iload_n 2, 1) := by decide +kernel
theorem dX9_feedback_8 : decode cX9_feedback 8 = .ok (.invokevirtual 79, 3) := by decide +kernel
theorem dX9_feedback_11 : decode cX9_feedback 11 = .ok (.invokevirtual 69, 3) := by decide +kernel
theorem dX9_feedback_14 : decode cX9_feedback 14 = .ok (.ireturn, 1) := by decide +kernel
theorem dX9_steal_0 : decode cX9_steal 0 = .ok (.aload_n 0, 1) := by decide +kernel
theorem dX9_steal_1 : decode cX9_steal 1 = .ok (.invokevirtual 63, 3) := by decide +kernel
theorem dX9_steal_4 : decode cX9_steal 4 = .ok (.aload_n 0, 1) := by decide +kernel
theorem dX9_steal_5 : decode cX9_steal 5 = .ok (.aload_n 0, 1) := by decide +kernel
theorem dX9_steal_6 : decode cX9_steal 6 = .ok (.iload_n 1, 1) := by decide +kernel
theorem dX9_steal_7 : decode cX9_steal 7 = .ok (.invokevirtual 82, 3) := by decide +kernel
theorem dX9_steal_10 : decode cX9_steal 10 = .ok (.invokevirtual 69, 3) := by decide +kernel
theorem dX9_steal_13 : decode cX9_steal 13 = .ok (.ireturn, 1) := by decide +kernel
theorem dX9_giveBack_0 : decode cX9_giveBack 0 = .ok (.aload_n 0, 1) := by decide +kernel
theorem dX9_giveBack_1 : decode cX9_giveBack 1 = .ok (.invokevirtual 63, 3) := by decide +kernel
theorem dX9_giveBack_4 : decode cX9_giveBack 4 = .ok (.aload_n 0, 1) := by decide +kernel
theorem dX9_giveBack_5 : decode cX9_giveBack 5 = .ok (.aload_n 0, 1) := by decide +kernel
theorem dX9_giveBack_6 : decode cX9_giveBack 6 = .ok (.iload_n 1, 1) := by decide +kernel
theorem dX9_giveBack_7 : decode cX9_giveBack 7 = .ok (.invokevirtual 85, 3) := by decide +kernel
theorem dX9_giveBack_10 : decode cX9_giveBack 10 = .ok (.invokevirtual 69, 3) := by decide +kernel
theorem dX9_giveBack_13 : decode cX9_giveBack 13 = .ok (.ireturn, 1) := by decide +kernel
theorem dX9_set_0 : decode cX9_set 0 = .ok (.iload_n 1, 1) := by decide +kernel
theorem dX9_set_1 : decode cX9_set 1 = .ok (.iconst 0, 1) := by decide +kernel
theorem dX9_set_2 : decode cX9_set 2 = .ok (.iconst 1, 1) := by decide +kernel
theorem dX9_set_3 : decode cX9_set 3 = .ok (.invokestatic 54, 3) := by decide +kernel
theorem dX9_set_6 : decode cX9_set 6 = .ok (.ifCond .eq 31, 3) := by decide +kernel
theorem dX9_set_9 : decode cX9_set 9 = .ok (.iload_n 2, 1) := by decide +kernel
theorem dX9_set_10 : decode cX9_set 10 = .ok (.iload_n 1, 1) := by decide +kernel
theorem dX9_set_11 : decode cX9_set 11 = .ok (.ifCond .ne 8, 3) := by decide +kernel
theorem dX9_set_14 : decode cX9_set 14 = .ok (.bipush 100, 2) := by decide +kernel
theorem dX9_set_16 : decode cX9_set 16 = .ok (.goto 4, 3) := by decide +kernel
theorem dX9_set_19 : decode cX9_set 19 = .ok (.iconst 0, 1) := by decide +kernel
theorem dX9_set_20 : decode cX9_set 20 = .ok (.iload_n 1, 1) := by decide +kernel
