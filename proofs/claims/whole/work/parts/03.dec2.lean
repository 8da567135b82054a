/-! decode rows (printed by TURN) -/
theorem dX9_set_21 : decode cX9_set 21 = .ok (.ifCond .ne 9, 3) := by decide +kernel
theorem dX9_set_24 : decode cX9_set 24 = .ok (.sipush 30000, 3) := by decide +kernel
theorem dX9_set_27 : decode cX9_set 27 = .ok (.goto 4, 3) := by decide +kernel
theorem dX9_set_30 : decode cX9_set 30 = .ok (.iconst 2, 1) := by decide +kernel
theorem dX9_set_31 : decode cX9_set 31 = .ok (.invokestatic 54, 3) := by decide +kernel
theorem dX9_set_34 : decode cX9_set 34 = .ok (.ifCond .ne 6, 3) := by decide +kernel
theorem dX9_set_37 : decode cX9_set 37 = .ok (.ldc 28, 2) := by decide +kernel
theorem dX9_set_39 : decode cX9_set 39 = .ok (.ireturn, 1) := by decide +kernel
theorem dX9_set_40 : decode cX9_set 40 = .ok (.aload_n 0, 1) := by decide +kernel
theorem dX9_set_41 : decode cX9_set 41 = .ok (.invokevirtual 63, 3) := by decide +kernel
theorem dX9_set_44 : decode cX9_set 44 = .ok (.aload_n 0, 1) := by decide +kernel
theorem dX9_set_45 : decode cX9_set 45 = .ok (.getfield 7, 3) := by decide +kernel
theorem dX9_set_48 : decode cX9_set 48 = .ok (.bipush 79, 2) := by decide +kernel
theorem dX9_set_50 : decode cX9_set 50 = .ok (.iload_n 1, 1) := by decide +kernel
theorem dX9_set_51 : decode cX9_set 51 = .ok (.iadd, 1) := by decide +kernel
theorem dX9_set_52 : decode cX9_set 52 = .ok (.iaload, 1) := by decide +kernel
theorem dX9_set_53 : decode cX9_set 53 = .ok (.istore_n 3, 1) := by decide +kernel
theorem dX9_set_54 : decode cX9_set 54 = .ok (.aload_n 0, 1) := by decide +kernel
theorem dX9_set_55 : decode cX9_set 55 = .ok (.getfield 7, 3) := by decide +kernel
theorem dX9_set_58 : decode cX9_set 58 = .ok (.bipush 79, 2) := by decide +kernel
theorem dX9_set_60 : decode cX9_set 60 = .ok (.iload_n 1, 1) := by decide +kernel
theorem dX9_set_61 : decode cX9_set 61 = .ok (.iadd, 1) := by decide +kernel
theorem dX9_set_62 : decode cX9_set 62 = .ok (.iload_n 2, 1) := by decide +kernel
theorem dX9_set_63 : decode cX9_set 63 = .ok (.iastore, 1) := by decide +kernel
theorem dX9_set_64 : decode cX9_set 64 = .ok (.aload_n 0, 1) := by decide +kernel
theorem dX9_set_65 : decode cX9_set 65 = .ok (.iload_n 3, 1) := by decide +kernel
theorem dX9_set_66 : decode cX9_set 66 = .ok (.invokevirtual 69, 3) := by decide +kernel
theorem dX9_set_69 : decode cX9_set 69 = .ok (.ireturn, 1) := by decide +kernel
theorem dX9_reset_0 : decode cX9_reset 0 = .ok (.aload_n 0, 1) := by decide +kernel
theorem dX9_reset_1 : decode cX9_reset 1 = .ok (.invokevirtual 63, 3) := by decide +kernel
theorem dX9_reset_4 : decode cX9_reset 4 = .ok (.aload_n 0, 1) := by decide +kernel
theorem dX9_reset_5 : decode cX9_reset 5 = .ok (.getfield 7, 3) := by decide +kernel
theorem dX9_reset_8 : decode cX9_reset 8 = .ok (.bipush 81, 2) := by decide +kernel
theorem dX9_reset_10 : decode cX9_reset 10 = .ok (.iaload, 1) := by decide +kernel
theorem dX9_reset_11 : decode cX9_reset 11 = .ok (.istore_n 1, 1) := by decide +kernel
theorem dX9_reset_12 : decode cX9_reset 12 = .ok (.aload_n 0, 1) := by decide +kernel
theorem dX9_reset_13 : decode cX9_reset 13 = .ok (.getfield 7, 3) := by decide +kernel
theorem dX9_reset_16 : decode cX9_reset 16 = .ok (.bipush 81, 2) := by decide +kernel
theorem dX9_reset_18 : decode cX9_reset 18 = .ok (.iconst 0, 1) := by decide +kernel
theorem dX9_reset_19 : decode cX9_reset 19 = .ok (.iastore, 1) := by decide +kernel
theorem dX9_reset_20 : decode cX9_reset 20 = .ok (.aload_n 0, 1) := by decide +kernel
theorem dX9_reset_21 : decode cX9_reset 21 = .ok (.getfield 7, 3) := by decide +kernel
theorem dX9_reset_24 : decode cX9_reset 24 = .ok (.bipush 82, 2) := by decide +kernel
theorem dX9_reset_26 : decode cX9_reset 26 = .ok (.iconst 0, 1) := by decide +kernel
theorem dX9_reset_27 : decode cX9_reset 27 = .ok (.iastore, 1) := by decide +kernel
theorem dX9_reset_28 : decode cX9_reset 28 = .ok (.aload_n 0, 1) := by decide +kernel
theorem dX9_reset_29 : decode cX9_reset 29 = .ok (.getfield 7, 3) := by decide +kernel
theorem dX9_reset_32 : decode cX9_reset 32 = .ok (.bipush 83, 2) := by decide +kernel
theorem dX9_reset_34 : decode cX9_reset 34 = .ok (.iconst 0, 1) := by decide +kernel
theorem dX9_reset_35 : decode cX9_reset 35 = .ok (.iastore, 1) := by decide +kernel
theorem dX9_reset_36 : decode cX9_reset 36 = .ok (.aload_n 0, 1) := by decide +kernel
theorem dX9_reset_37 : decode cX9_reset 37 = .ok (.getfield 7, 3) := by decide +kernel
theorem dX9_reset_40 : decode cX9_reset 40 = .ok (.bipush 84, 2) := by decide +kernel
theorem dX9_reset_42 : decode cX9_reset 42 = .ok (.iconst 0, 1) := by decide +kernel
theorem dX9_reset_43 : decode cX9_reset 43 = .ok (.iastore, 1) := by decide +kernel
theorem dX9_reset_44 : decode cX9_reset 44 = .ok (.aload_n 0, 1) := by decide +kernel
theorem dX9_reset_45 : decode cX9_reset 45 = .ok (.getfield 13, 3) := by decide +kernel
theorem dX9_reset_48 : decode cX9_reset 48 = .ok (.iconst 0, 1) := by decide +kernel
theorem dX9_reset_49 : decode cX9_reset 49 = .ok (.lconst 0, 1) := by decide +kernel
theorem dX9_reset_50 : decode cX9_reset 50 = .ok (.lastore, 1) := by decide +kernel
theorem dX9_reset_51 : decode cX9_reset 51 = .ok (.aload_n 0, 1) := by decide +kernel
theorem dX9_reset_52 : decode cX9_reset 52 = .ok (.iload_n 1, 1) := by decide +kernel
theorem dX9_reset_53 : decode cX9_reset 53 = .ok (.invokevirtual 69, 3) := by decide +kernel
theorem dX9_reset_56 : decode cX9_reset 56 = .ok (.ireturn, 1) := by decide +kernel
theorem dX9_tapOf_0 : decode cX9_tapOf 0 = .ok (.iload_n 1, 1) := by decide +kernel
theorem dX9_tapOf_1 : decode cX9_tapOf 1 = .ok (.iconst 0, 1) := by decide +kernel
theorem dX9_tapOf_2 : decode cX9_tapOf 2 = .ok (.iconst 4, 1) := by decide +kernel
theorem dX9_tapOf_3 : decode cX9_tapOf 3 = .ok (.invokestatic 54, 3) := by decide +kernel
theorem dX9_tapOf_6 : decode cX9_tapOf 6 = .ok (.ifCond .eq 12, 3) := by decide +kernel
theorem dX9_tapOf_9 : decode cX9_tapOf 9 = .ok (.iload_n 2, 1) := by decide +kernel
theorem dX9_tapOf_10 : decode cX9_tapOf 10 = .ok (.iconst 0, 1) := by decide +kernel
theorem dX9_tapOf_11 : decode cX9_tapOf 11 = .ok (.iconst 4, 1) := by decide +kernel
theorem dX9_tapOf_12 : decode cX9_tapOf 12 = .ok (.invokestatic 54, 3) := by decide +kernel
theorem dX9_tapOf_15 : decode cX9_tapOf 15 = .ok (.ifCond .ne 6, 3) := by decide +kernel
theorem dX9_tapOf_18 : decode cX9_tapOf 18 = .ok (.ldc 28, 2) := by decide +kernel
theorem dX9_tapOf_20 : decode cX9_tapOf 20 = .ok (.ireturn, 1) := by decide +kernel
theorem dX9_tapOf_21 : decode cX9_tapOf 21 = .ok (.iload_n 1, 1) := by decide +kernel
theorem dX9_tapOf_22 : decode cX9_tapOf 22 = .ok (.iconst 4, 1) := by decide +kernel
theorem dX9_tapOf_23 : decode cX9_tapOf 23 = .ok (.if_icmp .ge 18, 3) := by decide +kernel
theorem dX9_tapOf_26 : decode cX9_tapOf 26 = .ok (.aload_n 0, 1) := by decide +kernel
theorem dX9_tapOf_27 : decode cX9_tapOf 27 = .ok (.getfield 7, 3) := by decide +kernel
theorem dX9_tapOf_30 : decode cX9_tapOf 30 = .ok (.bipush 65, 2) := by decide +kernel
theorem dX9_tapOf_32 : decode cX9_tapOf 32 = .ok (.iload_n 1, 1) := by decide +kernel
theorem dX9_tapOf_33 : decode cX9_tapOf 33 = .ok (.iadd, 1) := by decide +kernel
theorem dX9_tapOf_34 : decode cX9_tapOf 34 = .ok (.iaload, 1) := by decide +kernel
theorem dX9_tapOf_35 : decode cX9_tapOf 35 = .ok (.ifCond .ne 6, 3) := by decide +kernel
theorem dX9_tapOf_38 : decode cX9_tapOf 38 = .ok (.ldc 88, 2) := by decide +kernel
theorem dX9_tapOf_40 : decode cX9_tapOf 40 = .ok (.ireturn, 1) := by decide +kernel
theorem dX9_tapOf_41 : decode cX9_tapOf 41 = .ok (.iload_n 2, 1) := by decide +kernel
theorem dX9_tapOf_42 : decode cX9_tapOf 42 = .ok (.tableswitch 72 0 3 #[30, 40, 50, 65], 30) := by decide +kernel
theorem dX9_tapOf_72 : decode cX9_tapOf 72 = .ok (.aload_n 0, 1) := by decide +kernel
theorem dX9_tapOf_73 : decode cX9_tapOf 73 = .ok (.getfield 7, 3) := by decide +kernel
theorem dX9_tapOf_76 : decode cX9_tapOf 76 = .ok (.bipush 69, 2) := by decide +kernel
theorem dX9_tapOf_78 : decode cX9_tapOf 78 = .ok (.iload_n 1, 1) := by decide +kernel
theorem dX9_tapOf_79 : decode cX9_tapOf 79 = .ok (.iadd, 1) := by decide +kernel
theorem dX9_tapOf_80 : decode cX9_tapOf 80 = .ok (.iaload, 1) := by decide +kernel
theorem dX9_tapOf_81 : decode cX9_tapOf 81 = .ok (.ireturn, 1) := by decide +kernel
theorem dX9_tapOf_82 : decode cX9_tapOf 82 = .ok (.aload_n 0, 1) := by decide +kernel
theorem dX9_tapOf_83 : decode cX9_tapOf 83 = .ok (.getfield 7, 3) := by decide +kernel
theorem dX9_tapOf_86 : decode cX9_tapOf 86 = .ok (.bipush 74, 2) := by decide +kernel
theorem dX9_tapOf_88 : decode cX9_tapOf 88 = .ok (.iload_n 1, 1) := by decide +kernel
theorem dX9_tapOf_89 : decode cX9_tapOf 89 = .ok (.iadd, 1) := by decide +kernel
theorem dX9_tapOf_90 : decode cX9_tapOf 90 = .ok (.iaload, 1) := by decide +kernel
theorem dX9_tapOf_91 : decode cX9_tapOf 91 = .ok (.ireturn, 1) := by decide +kernel
theorem dX9_tapOf_92 : decode cX9_tapOf 92 = .ok (.aload_n 0, 1) := by decide +kernel
theorem dX9_tapOf_93 : decode cX9_tapOf 93 = .ok (.iconst 0, 1) := by decide +kernel
theorem dX9_tapOf_94 : decode cX9_tapOf 94 = .ok (.iload_n 1, 1) := by decide +kernel
theorem dX9_tapOf_95 : decode cX9_tapOf 95 = .ok (.invokevirtual 37, 3) := by decide +kernel
theorem dX9_tapOf_98 : decode cX9_tapOf 98 = .ok (.ifCond .eq 7, 3) := by decide +kernel
theorem dX9_tapOf_101 : decode cX9_tapOf 101 = .ok (.iconst 1, 1) := by decide +kernel
theorem dX9_tapOf_102 : decode cX9_tapOf 102 = .ok (.goto 4, 3) := by decide +kernel
theorem dX9_tapOf_105 : decode cX9_tapOf 105 = .ok (.iconst 0, 1) := by decide +kernel
theorem dX9_tapOf_106 : decode cX9_tapOf 106 = .ok (.ireturn, 1) := by decide +kernel
theorem dX9_tapOf_107 : decode cX9_tapOf 107 = .ok (.aload_n 0, 1) := by decide +kernel
theorem dX9_tapOf_108 : decode cX9_tapOf 108 = .ok (.iconst 0, 1) := by decide +kernel
theorem dX9_tapOf_109 : decode cX9_tapOf 109 = .ok (.iload_n 1, 1) := by decide +kernel
theorem dX9_tapOf_110 : decode cX9_tapOf 110 = .ok (.invokevirtual 41, 3) := by decide +kernel
theorem dX9_tapOf_113 : decode cX9_tapOf 113 = .ok (.ireturn, 1) := by decide +kernel
theorem dX9_tapOf_114 : decode cX9_tapOf 114 = .ok (.aload_n 0, 1) := by decide +kernel
theorem dX9_tapOf_115 : decode cX9_tapOf 115 = .ok (.iconst 0, 1) := by decide +kernel
theorem dX9_tapOf_116 : decode cX9_tapOf 116 = .ok (.iload_n 1, 1) := by decide +kernel
theorem dX9_tapOf_117 : decode cX9_tapOf 117 = .ok (.invokevirtual 48, 3) := by decide +kernel
theorem dX9_tapOf_120 : decode cX9_tapOf 120 = .ok (.ireturn, 1) := by decide +kernel
theorem dX9_wordOf_0 : decode cX9_wordOf 0 = .ok (.iload_n 1, 1) := by decide +kernel
theorem dX9_wordOf_1 : decode cX9_wordOf 1 = .ok (.iconst 0, 1) := by decide +kernel
theorem dX9_wordOf_2 : decode cX9_wordOf 2 = .ok (.bipush 63, 2) := by decide +kernel
theorem dX9_wordOf_4 : decode cX9_wordOf 4 = .ok (.invokestatic 54, 3) := by decide +kernel
theorem dX9_wordOf_7 : decode cX9_wordOf 7 = .ok (.ifCond .ne 6, 3) := by decide +kernel
theorem dX9_wordOf_10 : decode cX9_wordOf 10 = .ok (.ldc 28, 2) := by decide +kernel
theorem dX9_wordOf_12 : decode cX9_wordOf 12 = .ok (.ireturn, 1) := by decide +kernel
theorem dX9_wordOf_13 : decode cX9_wordOf 13 = .ok (.iload_n 1, 1) := by decide +kernel
theorem dX9_wordOf_14 : decode cX9_wordOf 14 = .ok (.aload_n 0, 1) := by decide +kernel
theorem dX9_wordOf_15 : decode cX9_wordOf 15 = .ok (.iconst 0, 1) := by decide +kernel
theorem dX9_wordOf_16 : decode cX9_wordOf 16 = .ok (.invokevirtual 33, 3) := by decide +kernel
theorem dX9_wordOf_19 : decode cX9_wordOf 19 = .ok (.if_icmp .ge 12, 3) := by decide +kernel
theorem dX9_wordOf_22 : decode cX9_wordOf 22 = .ok (.aload_n 0, 1) := by decide +kernel
theorem dX9_wordOf_23 : decode cX9_wordOf 23 = .ok (.getfield 7, 3) := by decide +kernel
theorem dX9_wordOf_26 : decode cX9_wordOf 26 = .ok (.iload_n 1, 1) := by decide +kernel
theorem dX9_wordOf_27 : decode cX9_wordOf 27 = .ok (.iaload, 1) := by decide +kernel
theorem dX9_wordOf_28 : decode cX9_wordOf 28 = .ok (.goto 5, 3) := by decide +kernel
theorem dX9_wordOf_31 : decode cX9_wordOf 31 = .ok (.ldc 88, 2) := by decide +kernel
theorem dX9_wordOf_33 : decode cX9_wordOf 33 = .ok (.ireturn, 1) := by decide +kernel
theorem dX9_outputOf_0 : decode cX9_outputOf 0 = .ok (.iload_n 1, 1) := by decide +kernel
theorem dX9_outputOf_1 : decode cX9_outputOf 1 = .ok (.ifCond .ge 8, 3) := by decide +kernel
theorem dX9_outputOf_4 : decode cX9_outputOf 4 = .ok (.ldc 28, 2) := by decide +kernel
theorem dX9_outputOf_6 : decode cX9_outputOf 6 = .ok (.goto 28, 3) := by decide +kernel
theorem dX9_outputOf_9 : decode cX9_outputOf 9 = .ok (.iload_n 1, 1) := by decide +kernel
theorem dX9_outputOf_10 : decode cX9_outputOf 10 = .ok (.aload_n 0, 1) := by decide +kernel
theorem dX9_outputOf_11 : decode cX9_outputOf 11 = .ok (.getfield 7, 3) := by decide +kernel
theorem dX9_outputOf_14 : decode cX9_outputOf 14 = .ok (.bipush 97, 2) := by decide +kernel
theorem dX9_outputOf_16 : decode cX9_outputOf 16 = .ok (.iaload, 1) := by decide +kernel
theorem dX9_outputOf_17 : decode cX9_outputOf 17 = .ok (.if_icmp .ge 15, 3) := by decide +kernel
theorem dX9_outputOf_20 : decode cX9_outputOf 20 = .ok (.aload_n 0, 1) := by decide +kernel
theorem dX9_outputOf_21 : decode cX9_outputOf 21 = .ok (.getfield 7, 3) := by decide +kernel
theorem dX9_outputOf_24 : decode cX9_outputOf 24 = .ok (.bipush 85, 2) := by decide +kernel
theorem dX9_outputOf_26 : decode cX9_outputOf 26 = .ok (.iload_n 1, 1) := by decide +kernel
theorem dX9_outputOf_27 : decode cX9_outputOf 27 = .ok (.iadd, 1) := by decide +kernel
theorem dX9_outputOf_28 : decode cX9_outputOf 28 = .ok (.iaload, 1) := by decide +kernel
theorem dX9_outputOf_29 : decode cX9_outputOf 29 = .ok (.goto 5, 3) := by decide +kernel
theorem dX9_outputOf_32 : decode cX9_outputOf 32 = .ok (.ldc 88, 2) := by decide +kernel
theorem dX9_outputOf_34 : decode cX9_outputOf 34 = .ok (.ireturn, 1) := by decide +kernel
theorem dX9_meter_0 : decode cX9_meter 0 = .ok (.iload_n 1, 1) := by decide +kernel
theorem dX9_meter_1 : decode cX9_meter 1 = .ok (.tableswitch 102 0 4 #[35, 43, 51, 59, 67], 35) := by decide +kernel
theorem dX9_meter_36 : decode cX9_meter 36 = .ok (.aload_n 0, 1) := by decide +kernel
theorem dX9_meter_37 : decode cX9_meter 37 = .ok (.getfield 7, 3) := by decide +kernel
theorem dX9_meter_40 : decode cX9_meter 40 = .ok (.bipush 81, 2) := by decide +kernel
theorem dX9_meter_42 : decode cX9_meter 42 = .ok (.iaload, 1) := by decide +kernel
theorem dX9_meter_43 : decode cX9_meter 43 = .ok (.ireturn, 1) := by decide +kernel
theorem dX9_meter_44 : decode cX9_meter 44 = .ok (.aload_n 0, 1) := by decide +kernel
theorem dX9_meter_45 : decode cX9_meter 45 = .ok (.getfield 7, 3) := by decide +kernel
theorem dX9_meter_48 : decode cX9_meter 48 = .ok (.bipush 82, 2) := by decide +kernel
theorem dX9_meter_50 : decode cX9_meter 50 = .ok (.iaload, 1) := by decide +kernel
theorem dX9_meter_51 : decode cX9_meter 51 = .ok (.ireturn, 1) := by decide +kernel
theorem dX9_meter_52 : decode cX9_meter 52 = .ok (.aload_n 0, 1) := by decide +kernel
theorem dX9_meter_53 : decode cX9_meter 53 = .ok (.getfield 7, 3) := by decide +kernel
theorem dX9_meter_56 : decode cX9_meter 56 = .ok (.bipush 83, 2) := by decide +kernel
theorem dX9_meter_58 : decode cX9_meter 58 = .ok (.iaload, 1) := by decide +kernel
theorem dX9_meter_59 : decode cX9_meter 59 = .ok (.ireturn, 1) := by decide +kernel
theorem dX9_meter_60 : decode cX9_meter 60 = .ok (.aload_n 0, 1) := by decide +kernel
theorem dX9_meter_61 : decode cX9_meter 61 = .ok (.getfield 7, 3) := by decide +kernel
theorem dX9_meter_64 : decode cX9_meter 64 = .ok (.bipush 84, 2) := by decide +kernel
theorem dX9_meter_66 : decode cX9_meter 66 = .ok (.iaload, 1) := by decide +kernel
theorem dX9_meter_67 : decode cX9_meter 67 = .ok (.ireturn, 1) := by decide +kernel
theorem dX9_meter_68 : decode cX9_meter 68 = .ok (.aload_n 0, 1) := by decide +kernel
theorem dX9_meter_69 : decode cX9_meter 69 = .ok (.getfield 7, 3) := by decide +kernel
theorem dX9_meter_72 : decode cX9_meter 72 = .ok (.bipush 81, 2) := by decide +kernel
theorem dX9_meter_74 : decode cX9_meter 74 = .ok (.iaload, 1) := by decide +kernel
theorem dX9_meter_75 : decode cX9_meter 75 = .ok (.ifCond .ne 8, 3) := by decide +kernel
theorem dX9_meter_78 : decode cX9_meter 78 = .ok (.ldc 88, 2) := by decide +kernel
theorem dX9_meter_80 : decode cX9_meter 80 = .ok (.goto 22, 3) := by decide +kernel
theorem dX9_meter_83 : decode cX9_meter 83 = .ok (.aload_n 0, 1) := by decide +kernel
theorem dX9_meter_84 : decode cX9_meter 84 = .ok (.getfield 13, 3) := by decide +kernel
theorem dX9_meter_87 : decode cX9_meter 87 = .ok (.iconst 0, 1) := by decide +kernel
theorem dX9_meter_88 : decode cX9_meter 88 = .ok (.laload, 1) := by decide +kernel
theorem dX9_meter_89 : decode cX9_meter 89 = .ok (.l2f, 1) := by decide +kernel
theorem dX9_meter_90 : decode cX9_meter 90 = .ok (.aload_n 0, 1) := by decide +kernel
theorem dX9_meter_91 : decode cX9_meter 91 = .ok (.getfield 7, 3) := by decide +kernel
theorem dX9_meter_94 : decode cX9_meter 94 = .ok (.bipush 81, 2) := by decide +kernel
theorem dX9_meter_96 : decode cX9_meter 96 = .ok (.iaload, 1) := by decide +kernel
theorem dX9_meter_97 : decode cX9_meter 97 = .ok (.i2f, 1) := by decide +kernel
theorem dX9_meter_98 : decode cX9_meter 98 = .ok (.fdiv, 1) := by decide +kernel
theorem dX9_meter_99 : decode cX9_meter 99 = .ok (.invokestatic 89, 3) := by decide +kernel
theorem dX9_meter_102 : decode cX9_meter 102 = .ok (.ireturn, 1) := by decide +kernel
theorem dX9_meter_103 : decode cX9_meter 103 = .ok (.ldc 28, 2) := by decide +kernel
theorem dX9_meter_105 : decode cX9_meter 105 = .ok (.ireturn, 1) := by decide +kernel
theorem dX9_silenced_0 : decode cX9_silenced 0 = .ok (.aload_n 0, 1) := by decide +kernel
theorem dX9_silenced_1 : decode cX9_silenced 1 = .ok (.iconst 0, 1) := by decide +kernel
theorem dX9_silenced_2 : decode cX9_silenced 2 = .ok (.iconst 5, 1) := by decide +kernel
theorem dX9_silenced_3 : decode cX9_silenced 3 = .ok (.invokevirtual 24, 3) := by decide +kernel
theorem dX9_silenced_6 : decode cX9_silenced 6 = .ok (.iconst 0, 1) := by decide +kernel
theorem dX9_silenced_7 : decode cX9_silenced 7 = .ok (.istore_n 1, 1) := by decide +kernel
theorem dX9_silenced_8 : decode cX9_silenced 8 = .ok (.iload_n 1, 1) := by decide +kernel
theorem dX9_silenced_9 : decode cX9_silenced 9 = .ok (.bipush 64, 2) := by decide +kernel
theorem dX9_silenced_11 : decode cX9_silenced 11 = .ok (.if_icmp .ge 20, 3) := by decide +kernel
theorem dX9_silenced_14 : decode cX9_silenced 14 = .ok (.aload_n 0, 1) := by decide +kernel
theorem dX9_silenced_15 : decode cX9_silenced 15 = .ok (.getfield 7, 3) := by decide +kernel
theorem dX9_silenced_18 : decode cX9_silenced 18 = .ok (.sipush 500, 3) := by decide +kernel
theorem dX9_silenced_21 : decode cX9_silenced 21 = .ok (.iload_n 1, 1) := by decide +kernel
theorem dX9_silenced_22 : decode cX9_silenced 22 = .ok (.iadd, 1) := by decide +kernel
theorem dX9_silenced_23 : decode cX9_silenced 23 = .ok (.iconst 0, 1) := by decide +kernel
theorem dX9_silenced_24 : decode cX9_silenced 24 = .ok (.iastore, 1) := by decide +kernel
theorem dX9_silenced_25 : decode cX9_silenced 25 = .ok (.iinc 1 1, 3) := by decide +kernel
theorem dX9_silenced_28 : decode cX9_silenced 28 = .ok (.goto (-20), 3) := by decide +kernel
theorem dX9_silenced_31 : decode cX9_silenced 31 = .ok (.return_, 1) := by decide +kernel
theorem dX9_echo_0 : decode cX9_echo 0 = .ok (.iload_n 1, 1) := by decide +kernel
theorem dX9_echo_1 : decode cX9_echo 1 = .ok (.sipush (-20000), 3) := by decide +kernel
theorem dX9_echo_4 : decode cX9_echo 4 = .ok (.sipush 20000, 3) := by decide +kernel
theorem dX9_echo_7 : decode cX9_echo 7 = .ok (.invokestatic 54, 3) := by decide +kernel
theorem dX9_echo_10 : decode cX9_echo 10 = .ok (.ifCond .eq 14, 3) := by decide +kernel
theorem dX9_echo_13 : decode cX9_echo 13 = .ok (.iload_n 2, 1) := by decide +kernel
theorem dX9_echo_14 : decode cX9_echo 14 = .ok (.iconst 0, 1) := by decide +kernel
theorem dX9_echo_15 : decode cX9_echo 15 = .ok (.sipush 200, 3) := by decide +kernel
theorem dX9_echo_18 : decode cX9_echo 18 = .ok (.invokestatic 54, 3) := by decide +kernel
theorem dX9_echo_21 : decode cX9_echo 21 = .ok (.ifCond .ne 6, 3) := by decide +kernel
theorem dX9_echo_24 : decode cX9_echo 24 = .ok (.ldc 28, 2) := by decide +kernel
theorem dX9_echo_26 : decode cX9_echo 26 = .ok (.ireturn, 1) := by decide +kernel
theorem dX9_echo_27 : decode cX9_echo 27 = .ok (.aload_n 0, 1) := by decide +kernel
theorem dX9_echo_28 : decode cX9_echo 28 = .ok (.invokevirtual 95, 3) := by decide +kernel
theorem dX9_echo_31 : decode cX9_echo 31 = .ok (.aload_n 0, 1) := by decide +kernel
theorem dX9_echo_32 : decode cX9_echo 32 = .ok (.iconst 5, 1) := by decide +kernel
theorem dX9_echo_33 : decode cX9_echo 33 = .ok (.iload_n 1, 1) := by decide +kernel
theorem dX9_echo_34 : decode cX9_echo 34 = .ok (.invokevirtual 58, 3) := by decide +kernel
theorem dX9_echo_37 : decode cX9_echo 37 = .ok (.istore_n 3, 1) := by decide +kernel
theorem dX9_echo_38 : decode cX9_echo 38 = .ok (.iconst 0, 1) := by decide +kernel
theorem dX9_echo_39 : decode cX9_echo 39 = .ok (.istore 4, 2) := by decide +kernel
theorem dX9_echo_41 : decode cX9_echo 41 = .ok (.iload 4, 2) := by decide +kernel
theorem dX9_echo_43 : decode cX9_echo 43 = .ok (.iload_n 2, 1) := by decide +kernel
theorem dX9_echo_44 : decode cX9_echo 44 = .ok (.if_icmp .ge 16, 3) := by decide +kernel
theorem dX9_echo_47 : decode cX9_echo 47 = .ok (.aload_n 0, 1) := by decide +kernel
theorem dX9_echo_48 : decode cX9_echo 48 = .ok (.iconst 5, 1) := by decide +kernel
theorem dX9_echo_49 : decode cX9_echo 49 = .ok (.iconst 0, 1) := by decide +kernel
theorem dX9_echo_50 : decode cX9_echo 50 = .ok (.invokevirtual 58, 3) := by decide +kernel
theorem dX9_echo_53 : decode cX9_echo 53 = .ok (.istore_n 3, 1) := by decide +kernel
theorem dX9_echo_54 : decode cX9_echo 54 = .ok (.iinc 4 1, 3) := by decide +kernel
theorem dX9_echo_57 : decode cX9_echo 57 = .ok (.goto (-16), 3) := by decide +kernel
theorem dX9_echo_60 : decode cX9_echo 60 = .ok (.iload_n 3, 1) := by decide +kernel
theorem dX9_echo_61 : decode cX9_echo 61 = .ok (.ireturn, 1) := by decide +kernel
theorem dX9_quietAfter_0 : decode cX9_quietAfter 0 = .ok (.iload_n 1, 1) := by decide +kernel
theorem dX9_quietAfter_1 : decode cX9_quietAfter 1 = .ok (.iconst 0, 1) := by decide +kernel
theorem dX9_quietAfter_2 : decode cX9_quietAfter 2 = .ok (.sipush 20000, 3) := by decide +kernel
theorem dX9_quietAfter_5 : decode cX9_quietAfter 5 = .ok (.invokestatic 54, 3) := by decide +kernel
theorem dX9_quietAfter_8 : decode cX9_quietAfter 8 = .ok (.ifCond .ne 6, 3) := by decide +kernel
theorem dX9_quietAfter_11 : decode cX9_quietAfter 11 = .ok (.ldc 28, 2) := by decide +kernel
theorem dX9_quietAfter_13 : decode cX9_quietAfter 13 = .ok (.ireturn, 1) := by decide +kernel
theorem dX9_quietAfter_14 : decode cX9_quietAfter 14 = .ok (.aload_n 0, 1) := by decide +kernel
theorem dX9_quietAfter_15 : decode cX9_quietAfter 15 = .ok (.iconst 0, 1) := by decide +kernel
theorem dX9_quietAfter_16 : decode cX9_quietAfter 16 = .ok (.iconst 5, 1) := by decide +kernel
theorem dX9_quietAfter_17 : decode cX9_quietAfter 17 = .ok (.invokevirtual 24, 3) := by decide +kernel
theorem dX9_quietAfter_20 : decode cX9_quietAfter 20 = .ok (.iconst 0, 1) := by decide +kernel
theorem dX9_quietAfter_21 : decode cX9_quietAfter 21 = .ok (.istore_n 2, 1) := by decide +kernel
theorem dX9_quietAfter_22 : decode cX9_quietAfter 22 = .ok (.iload_n 2, 1) := by decide +kernel
theorem dX9_quietAfter_23 : decode cX9_quietAfter 23 = .ok (.sipush 500, 3) := by decide +kernel
theorem dX9_quietAfter_26 : decode cX9_quietAfter 26 = .ok (.if_icmp .gt 27, 3) := by decide +kernel
theorem dX9_quietAfter_29 : decode cX9_quietAfter 29 = .ok (.aload_n 0, 1) := by decide +kernel
theorem dX9_quietAfter_30 : decode cX9_quietAfter 30 = .ok (.iconst 5, 1) := by decide +kernel
theorem dX9_quietAfter_31 : decode cX9_quietAfter 31 = .ok (.invokevirtual 98, 3) := by decide +kernel
theorem dX9_quietAfter_34 : decode cX9_quietAfter 34 = .ok (.iload_n 1, 1) := by decide +kernel
theorem dX9_quietAfter_35 : decode cX9_quietAfter 35 = .ok (.if_icmp .gt 5, 3) := by decide +kernel
theorem dX9_quietAfter_38 : decode cX9_quietAfter 38 = .ok (.iload_n 2, 1) := by decide +kernel
theorem dX9_quietAfter_39 : decode cX9_quietAfter 39 = .ok (.ireturn, 1) := by decide +kernel
theorem dX9_quietAfter_40 : decode cX9_quietAfter 40 = .ok (.aload_n 0, 1) := by decide +kernel
theorem dX9_quietAfter_41 : decode cX9_quietAfter 41 = .ok (.iconst 5, 1) := by decide +kernel
theorem dX9_quietAfter_42 : decode cX9_quietAfter 42 = .ok (.iconst 0, 1) := by decide +kernel
theorem dX9_quietAfter_43 : decode cX9_quietAfter 43 = .ok (.invokevirtual 58, 3) := by decide +kernel
theorem dX9_quietAfter_46 : decode cX9_quietAfter 46 = .ok (.pop, 1) := by decide +kernel
theorem dX9_quietAfter_47 : decode cX9_quietAfter 47 = .ok (.iinc 2 1, 3) := by decide +kernel
theorem dX9_quietAfter_50 : decode cX9_quietAfter 50 = .ok (.goto (-28), 3) := by decide +kernel
theorem dX9_quietAfter_53 : decode cX9_quietAfter 53 = .ok (.ldc 88, 2) := by decide +kernel
theorem dX9_quietAfter_55 : decode cX9_quietAfter 55 = .ok (.ireturn, 1) := by decide +kernel
theorem dX9_loudest_0 : decode cX9_loudest 0 = .ok (.iconst 0, 1) := by decide +kernel
theorem dX9_loudest_1 : decode cX9_loudest 1 = .ok (.istore_n 1, 1) := by decide +kernel
theorem dX9_loudest_2 : decode cX9_loudest 2 = .ok (.iconst 0, 1) := by decide +kernel
theorem dX9_loudest_3 : decode cX9_loudest 3 = .ok (.istore_n 2, 1) := by decide +kernel
theorem dX9_loudest_4 : decode cX9_loudest 4 = .ok (.iload_n 2, 1) := by decide +kernel
theorem dX9_loudest_5 : decode cX9_loudest 5 = .ok (.iconst 4, 1) := by decide +kernel
theorem dX9_loudest_6 : decode cX9_loudest 6 = .ok (.if_icmp .ge 62, 3) := by decide +kernel
theorem dX9_loudest_9 : decode cX9_loudest 9 = .ok (.iload_n 1, 1) := by decide +kernel
theorem dX9_loudest_10 : decode cX9_loudest 10 = .ok (.aload_n 0, 1) := by decide +kernel
theorem dX9_loudest_11 : decode cX9_loudest 11 = .ok (.getfield 7, 3) := by decide +kernel
theorem dX9_loudest_14 : decode cX9_loudest 14 = .ok (.bipush 65, 2) := by decide +kernel
theorem dX9_loudest_16 : decode cX9_loudest 16 = .ok (.iload_n 2, 1) := by decide +kernel
theorem dX9_loudest_17 : decode cX9_loudest 17 = .ok (.iadd, 1) := by decide +kernel
theorem dX9_loudest_18 : decode cX9_loudest 18 = .ok (.iaload, 1) := by decide +kernel
theorem dX9_loudest_19 : decode cX9_loudest 19 = .ok (.iconst 1, 1) := by decide +kernel
theorem dX9_loudest_20 : decode cX9_loudest 20 = .ok (.if_icmp .ne 39, 3) := by decide +kernel
theorem dX9_loudest_23 : decode cX9_loudest 23 = .ok (.aload_n 0, 1) := by decide +kernel
theorem dX9_loudest_24 : decode cX9_loudest 24 = .ok (.iconst 0, 1) := by decide +kernel
theorem dX9_loudest_25 : decode cX9_loudest 25 = .ok (.iload_n 2, 1) := by decide +kernel
theorem dX9_loudest_26 : decode cX9_loudest 26 = .ok (.invokevirtual 37, 3) := by decide +kernel
theorem dX9_loudest_29 : decode cX9_loudest 29 = .ok (.ifCond .ne 30, 3) := by decide +kernel
theorem dX9_loudest_32 : decode cX9_loudest 32 = .ok (.aload_n 0, 1) := by decide +kernel
theorem dX9_loudest_33 : decode cX9_loudest 33 = .ok (.getfield 7, 3) := by decide +kernel
theorem dX9_loudest_36 : decode cX9_loudest 36 = .ok (.bipush 74, 2) := by decide +kernel
theorem dX9_loudest_38 : decode cX9_loudest 38 = .ok (.iload_n 2, 1) := by decide +kernel
theorem dX9_loudest_39 : decode cX9_loudest 39 = .ok (.iadd, 1) := by decide +kernel
theorem dX9_loudest_40 : decode cX9_loudest 40 = .ok (.iaload, 1) := by decide +kernel
theorem dX9_loudest_41 : decode cX9_loudest 41 = .ok (.invokestatic 45, 3) := by decide +kernel
theorem dX9_loudest_44 : decode cX9_loudest 44 = .ok (.aload_n 0, 1) := by decide +kernel
theorem dX9_loudest_45 : decode cX9_loudest 45 = .ok (.getfield 7, 3) := by decide +kernel
theorem dX9_loudest_48 : decode cX9_loudest 48 = .ok (.bipush 79, 2) := by decide +kernel
theorem dX9_loudest_50 : decode cX9_loudest 50 = .ok (.iaload, 1) := by decide +kernel
theorem dX9_loudest_51 : decode cX9_loudest 51 = .ok (.imul, 1) := by decide +kernel
theorem dX9_loudest_52 : decode cX9_loudest 52 = .ok (.sipush 1000, 3) := by decide +kernel
theorem dX9_loudest_55 : decode cX9_loudest 55 = .ok (.idiv, 1) := by decide +kernel
theorem dX9_loudest_56 : decode cX9_loudest 56 = .ok (.goto 4, 3) := by decide +kernel
theorem dX9_loudest_59 : decode cX9_loudest 59 = .ok (.iconst 0, 1) := by decide +kernel
theorem dX9_loudest_60 : decode cX9_loudest 60 = .ok (.iadd, 1) := by decide +kernel
theorem dX9_loudest_61 : decode cX9_loudest 61 = .ok (.istore_n 1, 1) := by decide +kernel
theorem dX9_loudest_62 : decode cX9_loudest 62 = .ok (.iinc 2 1, 3) := by decide +kernel
theorem dX9_loudest_65 : decode cX9_loudest 65 = .ok (.goto (-61), 3) := by decide +kernel
theorem dX9_loudest_68 : decode cX9_loudest 68 = .ok (.iload_n 1, 1) := by decide +kernel
theorem dX9_loudest_69 : decode cX9_loudest 69 = .ok (.ireturn, 1) := by decide +kernel
theorem dX9_isQuiet_0 : decode cX9_isQuiet 0 = .ok (.aload_n 0, 1) := by decide +kernel
theorem dX9_isQuiet_1 : decode cX9_isQuiet 1 = .ok (.invokevirtual 95, 3) := by decide +kernel
theorem dX9_isQuiet_4 : decode cX9_isQuiet 4 = .ok (.aload_n 0, 1) := by decide +kernel
theorem dX9_isQuiet_5 : decode cX9_isQuiet 5 = .ok (.getfield 7, 3) := by decide +kernel
theorem dX9_isQuiet_8 : decode cX9_isQuiet 8 = .ok (.sipush 578, 3) := by decide +kernel
theorem dX9_isQuiet_11 : decode cX9_isQuiet 11 = .ok (.iload_n 1, 1) := by decide +kernel
theorem dX9_isQuiet_12 : decode cX9_isQuiet 12 = .ok (.iastore, 1) := by decide +kernel
theorem dX9_isQuiet_13 : decode cX9_isQuiet 13 = .ok (.aload_n 0, 1) := by decide +kernel
theorem dX9_isQuiet_14 : decode cX9_isQuiet 14 = .ok (.iconst 5, 1) := by decide +kernel
theorem dX9_isQuiet_15 : decode cX9_isQuiet 15 = .ok (.sipush 20000, 3) := by decide +kernel
theorem dX9_isQuiet_18 : decode cX9_isQuiet 18 = .ok (.invokevirtual 58, 3) := by decide +kernel
theorem dX9_isQuiet_21 : decode cX9_isQuiet 21 = .ok (.pop, 1) := by decide +kernel
theorem dX9_isQuiet_22 : decode cX9_isQuiet 22 = .ok (.iconst 0, 1) := by decide +kernel
theorem dX9_isQuiet_23 : decode cX9_isQuiet 23 = .ok (.istore 4, 2) := by decide +kernel
theorem dX9_isQuiet_25 : decode cX9_isQuiet 25 = .ok (.iload 4, 2) := by decide +kernel
theorem dX9_isQuiet_27 : decode cX9_isQuiet 27 = .ok (.iload_n 2, 1) := by decide +kernel
theorem dX9_isQuiet_28 : decode cX9_isQuiet 28 = .ok (.if_icmp .ge 16, 3) := by decide +kernel
theorem dX9_isQuiet_31 : decode cX9_isQuiet 31 = .ok (.aload_n 0, 1) := by decide +kernel
theorem dX9_isQuiet_32 : decode cX9_isQuiet 32 = .ok (.iconst 5, 1) := by decide +kernel
theorem dX9_isQuiet_33 : decode cX9_isQuiet 33 = .ok (.iconst 0, 1) := by decide +kernel
theorem dX9_isQuiet_34 : decode cX9_isQuiet 34 = .ok (.invokevirtual 58, 3) := by decide +kernel
theorem dX9_isQuiet_37 : decode cX9_isQuiet 37 = .ok (.pop, 1) := by decide +kernel
theorem dX9_isQuiet_38 : decode cX9_isQuiet 38 = .ok (.iinc 4 1, 3) := by decide +kernel
theorem dX9_isQuiet_41 : decode cX9_isQuiet 41 = .ok (.goto (-16), 3) := by decide +kernel
theorem dX9_isQuiet_44 : decode cX9_isQuiet 44 = .ok (.aload_n 0, 1) := by decide +kernel
theorem dX9_isQuiet_45 : decode cX9_isQuiet 45 = .ok (.iconst 5, 1) := by decide +kernel
theorem dX9_isQuiet_46 : decode cX9_isQuiet 46 = .ok (.invokevirtual 98, 3) := by decide +kernel
theorem dX9_isQuiet_49 : decode cX9_isQuiet 49 = .ok (.iload_n 3, 1) := by decide +kernel
theorem dX9_isQuiet_50 : decode cX9_isQuiet 50 = .ok (.if_icmp .gt 7, 3) := by decide +kernel
theorem dX9_isQuiet_53 : decode cX9_isQuiet 53 = .ok (.iconst 1, 1) := by decide +kernel
theorem dX9_isQuiet_54 : decode cX9_isQuiet 54 = .ok (.goto 4, 3) := by decide +kernel
theorem dX9_isQuiet_57 : decode cX9_isQuiet 57 = .ok (.iconst 0, 1) := by decide +kernel
theorem dX9_isQuiet_58 : decode cX9_isQuiet 58 = .ok (.ireturn, 1) := by decide +kernel
theorem dX9_safeGain_0 : decode cX9_safeGain 0 = .ok (.iload_n 1, 1) := by decide +kernel
theorem dX9_safeGain_1 : decode cX9_safeGain 1 = .ok (.iconst 1, 1) := by decide +kernel
theorem dX9_safeGain_2 : decode cX9_safeGain 2 = .ok (.sipush 200, 3) := by decide +kernel
theorem dX9_safeGain_5 : decode cX9_safeGain 5 = .ok (.invokestatic 54, 3) := by decide +kernel
theorem dX9_safeGain_8 : decode cX9_safeGain 8 = .ok (.ifCond .eq 14, 3) := by decide +kernel
theorem dX9_safeGain_11 : decode cX9_safeGain 11 = .ok (.iload_n 2, 1) := by decide +kernel
theorem dX9_safeGain_12 : decode cX9_safeGain 12 = .ok (.iconst 0, 1) := by decide +kernel
theorem dX9_safeGain_13 : decode cX9_safeGain 13 = .ok (.sipush 20000, 3) := by decide +kernel
theorem dX9_safeGain_16 : decode cX9_safeGain 16 = .ok (.invokestatic 54, 3) := by decide +kernel
theorem dX9_safeGain_19 : decode cX9_safeGain 19 = .ok (.ifCond .ne 6, 3) := by decide +kernel
theorem dX9_safeGain_22 : decode cX9_safeGain 22 = .ok (.ldc 28, 2) := by decide +kernel
theorem dX9_safeGain_24 : decode cX9_safeGain 24 = .ok (.ireturn, 1) := by decide +kernel
theorem dX9_safeGain_25 : decode cX9_safeGain 25 = .ok (.iconst 0, 1) := by decide +kernel
theorem dX9_safeGain_26 : decode cX9_safeGain 26 = .ok (.istore_n 3, 1) := by decide +kernel
theorem dX9_safeGain_27 : decode cX9_safeGain 27 = .ok (.sipush 950, 3) := by decide +kernel
theorem dX9_safeGain_30 : decode cX9_safeGain 30 = .ok (.istore 4, 2) := by decide +kernel
theorem dX9_safeGain_32 : decode cX9_safeGain 32 = .ok (.iload_n 3, 1) := by decide +kernel
theorem dX9_safeGain_33 : decode cX9_safeGain 33 = .ok (.iload 4, 2) := by decide +kernel
theorem dX9_safeGain_35 : decode cX9_safeGain 35 = .ok (.if_icmp .ge 39, 3) := by decide +kernel
theorem dX9_safeGain_38 : decode cX9_safeGain 38 = .ok (.iload_n 3, 1) := by decide +kernel
theorem dX9_safeGain_39 : decode cX9_safeGain 39 = .ok (.iload 4, 2) := by decide +kernel
theorem dX9_safeGain_41 : decode cX9_safeGain 41 = .ok (.iadd, 1) := by decide +kernel
theorem dX9_safeGain_42 : decode cX9_safeGain 42 = .ok (.iconst 1, 1) := by decide +kernel
theorem dX9_safeGain_43 : decode cX9_safeGain 43 = .ok (.iadd, 1) := by decide +kernel
theorem dX9_safeGain_44 : decode cX9_safeGain 44 = .ok (.iconst 2, 1) := by decide +kernel
theorem dX9_safeGain_45 : decode cX9_safeGain 45 = .ok (.idiv, 1) := by decide +kernel
theorem dX9_safeGain_46 : decode cX9_safeGain 46 = .ok (.istore 5, 2) := by decide +kernel
theorem dX9_safeGain_48 : decode cX9_safeGain 48 = .ok (.aload_n 0, 1) := by decide +kernel
theorem dX9_safeGain_49 : decode cX9_safeGain 49 = .ok (.iload 5, 2) := by decide +kernel
theorem dX9_safeGain_51 : decode cX9_safeGain 51 = .ok (.iload_n 1, 1) := by decide +kernel
theorem dX9_safeGain_52 : decode cX9_safeGain 52 = .ok (.iload_n 2, 1) := by decide +kernel
theorem dX9_safeGain_53 : decode cX9_safeGain 53 = .ok (.invokevirtual 101, 3) := by decide +kernel
theorem dX9_safeGain_56 : decode cX9_safeGain 56 = .ok (.ifCond .eq 9, 3) := by decide +kernel
theorem dX9_safeGain_59 : decode cX9_safeGain 59 = .ok (.iload 5, 2) := by decide +kernel
theorem dX9_safeGain_61 : decode cX9_safeGain 61 = .ok (.istore_n 3, 1) := by decide +kernel
theorem dX9_safeGain_62 : decode cX9_safeGain 62 = .ok (.goto 9, 3) := by decide +kernel
theorem dX9_safeGain_65 : decode cX9_safeGain 65 = .ok (.iload 5, 2) := by decide +kernel
theorem dX9_safeGain_67 : decode cX9_safeGain 67 = .ok (.iconst 1, 1) := by decide +kernel
theorem dX9_safeGain_68 : decode cX9_safeGain 68 = .ok (.isub, 1) := by decide +kernel
theorem dX9_safeGain_69 : decode cX9_safeGain 69 = .ok (.istore 4, 2) := by decide +kernel
theorem dX9_safeGain_71 : decode cX9_safeGain 71 = .ok (.goto (-39), 3) := by decide +kernel
theorem dX9_safeGain_74 : decode cX9_safeGain 74 = .ok (.iload_n 3, 1) := by decide +kernel
theorem dX9_safeGain_75 : decode cX9_safeGain 75 = .ok (.ireturn, 1) := by decide +kernel
theorem dX9_words_0 : decode cX9_words 0 = .ok (.iconst 0, 1) := by decide +kernel
theorem dX9_words_1 : decode cX9_words 1 = .ok (.istore_n 2, 1) := by decide +kernel
theorem dX9_words_2 : decode cX9_words 2 = .ok (.iconst 0, 1) := by decide +kernel
theorem dX9_words_3 : decode cX9_words 3 = .ok (.istore_n 3, 1) := by decide +kernel
theorem dX9_words_4 : decode cX9_words 4 = .ok (.iload_n 3, 1) := by decide +kernel
theorem dX9_words_5 : decode cX9_words 5 = .ok (.aload_n 0, 1) := by decide +kernel
theorem dX9_words_6 : decode cX9_words 6 = .ok (.iconst 0, 1) := by decide +kernel
theorem dX9_words_7 : decode cX9_words 7 = .ok (.invokevirtual 33, 3) := by decide +kernel
theorem dX9_words_10 : decode cX9_words 10 = .ok (.if_icmp .ge 42, 3) := by decide +kernel
theorem dX9_words_13 : decode cX9_words 13 = .ok (.iload_n 2, 1) := by decide +kernel
theorem dX9_words_14 : decode cX9_words 14 = .ok (.iload_n 1, 1) := by decide +kernel
theorem dX9_words_15 : decode cX9_words 15 = .ok (.ifCond .eq 15, 3) := by decide +kernel
theorem dX9_words_18 : decode cX9_words 18 = .ok (.aload_n 0, 1) := by decide +kernel
theorem dX9_words_19 : decode cX9_words 19 = .ok (.getfield 7, 3) := by decide +kernel
theorem dX9_words_22 : decode cX9_words 22 = .ok (.iload_n 3, 1) := by decide +kernel
theorem dX9_words_23 : decode cX9_words 23 = .ok (.iaload, 1) := by decide +kernel
theorem dX9_words_24 : decode cX9_words 24 = .ok (.invokestatic 45, 3) := by decide +kernel
theorem dX9_words_27 : decode cX9_words 27 = .ok (.goto 17, 3) := by decide +kernel
theorem dX9_words_30 : decode cX9_words 30 = .ok (.aload_n 0, 1) := by decide +kernel
theorem dX9_words_31 : decode cX9_words 31 = .ok (.getfield 7, 3) := by decide +kernel
theorem dX9_words_34 : decode cX9_words 34 = .ok (.iload_n 3, 1) := by decide +kernel
theorem dX9_words_35 : decode cX9_words 35 = .ok (.iaload, 1) := by decide +kernel
theorem dX9_words_36 : decode cX9_words 36 = .ok (.ifCond .eq 7, 3) := by decide +kernel
theorem dX9_words_39 : decode cX9_words 39 = .ok (.iconst 1, 1) := by decide +kernel
theorem dX9_words_40 : decode cX9_words 40 = .ok (.goto 4, 3) := by decide +kernel
theorem dX9_words_43 : decode cX9_words 43 = .ok (.iconst 0, 1) := by decide +kernel
theorem dX9_words_44 : decode cX9_words 44 = .ok (.iadd, 1) := by decide +kernel
theorem dX9_words_45 : decode cX9_words 45 = .ok (.istore_n 2, 1) := by decide +kernel
theorem dX9_words_46 : decode cX9_words 46 = .ok (.iinc 3 1, 3) := by decide +kernel
theorem dX9_words_49 : decode cX9_words 49 = .ok (.goto (-45), 3) := by decide +kernel
theorem dX9_words_52 : decode cX9_words 52 = .ok (.iload_n 2, 1) := by decide +kernel
theorem dX9_words_53 : decode cX9_words 53 = .ok (.ireturn, 1) := by decide +kernel
theorem dX9_taps_0 : decode cX9_taps 0 = .ok (.iconst 0, 1) := by decide +kernel
theorem dX9_taps_1 : decode cX9_taps 1 = .ok (.istore_n 2, 1) := by decide +kernel
theorem dX9_taps_2 : decode cX9_taps 2 = .ok (.iconst 0, 1) := by decide +kernel
theorem dX9_taps_3 : decode cX9_taps 3 = .ok (.istore_n 3, 1) := by decide +kernel
theorem dX9_taps_4 : decode cX9_taps 4 = .ok (.iload_n 3, 1) := by decide +kernel
theorem dX9_taps_5 : decode cX9_taps 5 = .ok (.iconst 4, 1) := by decide +kernel
theorem dX9_taps_6 : decode cX9_taps 6 = .ok (.if_icmp .ge 43, 3) := by decide +kernel
theorem dX9_taps_9 : decode cX9_taps 9 = .ok (.iload_n 2, 1) := by decide +kernel
theorem dX9_taps_10 : decode cX9_taps 10 = .ok (.aload_n 0, 1) := by decide +kernel
theorem dX9_taps_11 : decode cX9_taps 11 = .ok (.getfield 7, 3) := by decide +kernel
theorem dX9_taps_14 : decode cX9_taps 14 = .ok (.bipush 65, 2) := by decide +kernel
theorem dX9_taps_16 : decode cX9_taps 16 = .ok (.iload_n 3, 1) := by decide +kernel
theorem dX9_taps_17 : decode cX9_taps 17 = .ok (.iadd, 1) := by decide +kernel
theorem dX9_taps_18 : decode cX9_taps 18 = .ok (.iaload, 1) := by decide +kernel
theorem dX9_taps_19 : decode cX9_taps 19 = .ok (.iconst 1, 1) := by decide +kernel
theorem dX9_taps_20 : decode cX9_taps 20 = .ok (.if_icmp .ne 20, 3) := by decide +kernel
theorem dX9_taps_23 : decode cX9_taps 23 = .ok (.iload_n 1, 1) := by decide +kernel
theorem dX9_taps_24 : decode cX9_taps 24 = .ok (.ifCond .eq 12, 3) := by decide +kernel
theorem dX9_taps_27 : decode cX9_taps 27 = .ok (.aload_n 0, 1) := by decide +kernel
theorem dX9_taps_28 : decode cX9_taps 28 = .ok (.iconst 0, 1) := by decide +kernel
theorem dX9_taps_29 : decode cX9_taps 29 = .ok (.iload_n 3, 1) := by decide +kernel
theorem dX9_taps_30 : decode cX9_taps 30 = .ok (.invokevirtual 37, 3) := by decide +kernel
theorem dX9_taps_33 : decode cX9_taps 33 = .ok (.ifCond .eq 7, 3) := by decide +kernel
theorem dX9_taps_36 : decode cX9_taps 36 = .ok (.iconst 1, 1) := by decide +kernel
theorem dX9_taps_37 : decode cX9_taps 37 = .ok (.goto 4, 3) := by decide +kernel
theorem dX9_taps_40 : decode cX9_taps 40 = .ok (.iconst 0, 1) := by decide +kernel
theorem dX9_taps_41 : decode cX9_taps 41 = .ok (.iadd, 1) := by decide +kernel
theorem dX9_taps_42 : decode cX9_taps 42 = .ok (.istore_n 2, 1) := by decide +kernel
theorem dX9_taps_43 : decode cX9_taps 43 = .ok (.iinc 3 1, 3) := by decide +kernel
theorem dX9_taps_46 : decode cX9_taps 46 = .ok (.goto (-42), 3) := by decide +kernel
theorem dX9_taps_49 : decode cX9_taps 49 = .ok (.iload_n 2, 1) := by decide +kernel
theorem dX9_taps_50 : decode cX9_taps 50 = .ok (.ireturn, 1) := by decide +kernel
theorem dX9_count_0 : decode cX9_count 0 = .ok (.iload_n 1, 1) := by decide +kernel
theorem dX9_count_1 : decode cX9_count 1 = .ok (.tableswitch 175 0 21 #[103, 109, 117, 123, 129, 135, 141, 149, 154, 175, 175, 175, 175, 175, 175, 175, 175, 175, 175, 175, 159, 167], 103) := by decide +kernel
theorem dX9_count_104 : decode cX9_count 104 = .ok (.aload_n 0, 1) := by decide +kernel
theorem dX9_count_105 : decode cX9_count 105 = .ok (.iconst 0, 1) := by decide +kernel
theorem dX9_count_106 : decode cX9_count 106 = .ok (.invokevirtual 33, 3) := by decide +kernel
theorem dX9_count_109 : decode cX9_count 109 = .ok (.ireturn, 1) := by decide +kernel
theorem dX9_count_110 : decode cX9_count 110 = .ok (.aload_n 0, 1) := by decide +kernel
theorem dX9_count_111 : decode cX9_count 111 = .ok (.getfield 7, 3) := by decide +kernel
theorem dX9_count_114 : decode cX9_count 114 = .ok (.bipush 64, 2) := by decide +kernel
theorem dX9_count_116 : decode cX9_count 116 = .ok (.iaload, 1) := by decide +kernel
theorem dX9_count_117 : decode cX9_count 117 = .ok (.ireturn, 1) := by decide +kernel
theorem dX9_count_118 : decode cX9_count 118 = .ok (.aload_n 0, 1) := by decide +kernel
theorem dX9_count_119 : decode cX9_count 119 = .ok (.iconst 0, 1) := by decide +kernel
theorem dX9_count_120 : decode cX9_count 120 = .ok (.invokevirtual 104, 3) := by decide +kernel
theorem dX9_count_123 : decode cX9_count 123 = .ok (.ireturn, 1) := by decide +kernel
theorem dX9_count_124 : decode cX9_count 124 = .ok (.aload_n 0, 1) := by decide +kernel
theorem dX9_count_125 : decode cX9_count 125 = .ok (.iconst 1, 1) := by decide +kernel
theorem dX9_count_126 : decode cX9_count 126 = .ok (.invokevirtual 104, 3) := by decide +kernel
theorem dX9_count_129 : decode cX9_count 129 = .ok (.ireturn, 1) := by decide +kernel
theorem dX9_count_130 : decode cX9_count 130 = .ok (.aload_n 0, 1) := by decide +kernel
theorem dX9_count_131 : decode cX9_count 131 = .ok (.iconst 1, 1) := by decide +kernel
theorem dX9_count_132 : decode cX9_count 132 = .ok (.invokevirtual 108, 3) := by decide +kernel
theorem dX9_count_135 : decode cX9_count 135 = .ok (.ireturn, 1) := by decide +kernel
theorem dX9_count_136 : decode cX9_count 136 = .ok (.aload_n 0, 1) := by decide +kernel
theorem dX9_count_137 : decode cX9_count 137 = .ok (.iconst 0, 1) := by decide +kernel
theorem dX9_count_138 : decode cX9_count 138 = .ok (.invokevirtual 108, 3) := by decide +kernel
theorem dX9_count_141 : decode cX9_count 141 = .ok (.ireturn, 1) := by decide +kernel
theorem dX9_count_142 : decode cX9_count 142 = .ok (.aload_n 0, 1) := by decide +kernel
theorem dX9_count_143 : decode cX9_count 143 = .ok (.getfield 7, 3) := by decide +kernel
theorem dX9_count_146 : decode cX9_count 146 = .ok (.bipush 98, 2) := by decide +kernel
theorem dX9_count_148 : decode cX9_count 148 = .ok (.iaload, 1) := by decide +kernel
theorem dX9_count_149 : decode cX9_count 149 = .ok (.ireturn, 1) := by decide +kernel
theorem dX9_count_150 : decode cX9_count 150 = .ok (.aload_n 0, 1) := by decide +kernel
theorem dX9_count_151 : decode cX9_count 151 = .ok (.getfield 29, 3) := by decide +kernel
theorem dX9_count_154 : decode cX9_count 154 = .ok (.ireturn, 1) := by decide +kernel
theorem dX9_count_155 : decode cX9_count 155 = .ok (.aload_n 0, 1) := by decide +kernel
theorem dX9_count_156 : decode cX9_count 156 = .ok (.getfield 111, 3) := by decide +kernel
theorem dX9_count_159 : decode cX9_count 159 = .ok (.ireturn, 1) := by decide +kernel
theorem dX9_count_160 : decode cX9_count 160 = .ok (.aload_n 0, 1) := by decide +kernel
theorem dX9_count_161 : decode cX9_count 161 = .ok (.getfield 7, 3) := by decide +kernel
theorem dX9_count_164 : decode cX9_count 164 = .ok (.bipush 79, 2) := by decide +kernel
theorem dX9_count_166 : decode cX9_count 166 = .ok (.iaload, 1) := by decide +kernel
theorem dX9_count_167 : decode cX9_count 167 = .ok (.ireturn, 1) := by decide +kernel
theorem dX9_count_168 : decode cX9_count 168 = .ok (.aload_n 0, 1) := by decide +kernel
theorem dX9_count_169 : decode cX9_count 169 = .ok (.getfield 7, 3) := by decide +kernel
theorem dX9_count_172 : decode cX9_count 172 = .ok (.bipush 80, 2) := by decide +kernel
theorem dX9_count_174 : decode cX9_count 174 = .ok (.iaload, 1) := by decide +kernel
theorem dX9_count_175 : decode cX9_count 175 = .ok (.ireturn, 1) := by decide +kernel
theorem dX9_count_176 : decode cX9_count 176 = .ok (.ldc 28, 2) := by decide +kernel
theorem dX9_count_178 : decode cX9_count 178 = .ok (.ireturn, 1) := by decide +kernel
theorem dX9_undo_0 : decode cX9_undo 0 = .ok (.aload_n 0, 1) := by decide +kernel
theorem dX9_undo_1 : decode cX9_undo 1 = .ok (.getfield 29, 3) := by decide +kernel
theorem dX9_undo_4 : decode cX9_undo 4 = .ok (.ifCond .ne 6, 3) := by decide +kernel
theorem dX9_undo_7 : decode cX9_undo 7 = .ok (.ldc 62, 2) := by decide +kernel
theorem dX9_undo_9 : decode cX9_undo 9 = .ok (.ireturn, 1) := by decide +kernel
theorem dX9_undo_10 : decode cX9_undo 10 = .ok (.aload_n 0, 1) := by decide +kernel
theorem dX9_undo_11 : decode cX9_undo 11 = .ok (.aload_n 0, 1) := by decide +kernel
theorem dX9_undo_12 : decode cX9_undo 12 = .ok (.getfield 29, 3) := by decide +kernel
theorem dX9_undo_15 : decode cX9_undo 15 = .ok (.iconst 0, 1) := by decide +kernel
theorem dX9_undo_16 : decode cX9_undo 16 = .ok (.invokevirtual 24, 3) := by decide +kernel
theorem dX9_undo_19 : decode cX9_undo 19 = .ok (.aload_n 0, 1) := by decide +kernel
theorem dX9_undo_20 : decode cX9_undo 20 = .ok (.dup, 1) := by decide +kernel
theorem dX9_undo_21 : decode cX9_undo 21 = .ok (.getfield 29, 3) := by decide +kernel
theorem dX9_undo_24 : decode cX9_undo 24 = .ok (.iconst 1, 1) := by decide +kernel
theorem dX9_undo_25 : decode cX9_undo 25 = .ok (.isub, 1) := by decide +kernel
theorem dX9_undo_26 : decode cX9_undo 26 = .ok (.putfield 29, 3) := by decide +kernel
theorem dX9_undo_29 : decode cX9_undo 29 = .ok (.aload_n 0, 1) := by decide +kernel
theorem dX9_undo_30 : decode cX9_undo 30 = .ok (.getfield 29, 3) := by decide +kernel
theorem dX9_undo_33 : decode cX9_undo 33 = .ok (.ireturn, 1) := by decide +kernel
theorem dX9_type_0 : decode cX9_type 0 = .ok (.iload_n 1, 1) := by decide +kernel
theorem dX9_type_1 : decode cX9_type 1 = .ok (.bipush 32, 2) := by decide +kernel
theorem dX9_type_3 : decode cX9_type 3 = .ok (.bipush 126, 2) := by decide +kernel
theorem dX9_type_5 : decode cX9_type 5 = .ok (.invokestatic 54, 3) := by decide +kernel
theorem dX9_type_8 : decode cX9_type 8 = .ok (.ifCond .ne 6, 3) := by decide +kernel
theorem dX9_type_11 : decode cX9_type 11 = .ok (.ldc 28, 2) := by decide +kernel
theorem dX9_type_13 : decode cX9_type 13 = .ok (.ireturn, 1) := by decide +kernel
theorem dX9_type_14 : decode cX9_type 14 = .ok (.aload_n 0, 1) := by decide +kernel
theorem dX9_type_15 : decode cX9_type 15 = .ok (.getfield 111, 3) := by decide +kernel
theorem dX9_type_18 : decode cX9_type 18 = .ok (.bipush 60, 2) := by decide +kernel
theorem dX9_type_20 : decode cX9_type 20 = .ok (.if_icmp .ne 6, 3) := by decide +kernel
theorem dX9_type_23 : decode cX9_type 23 = .ok (.ldc 61, 2) := by decide +kernel
theorem dX9_type_25 : decode cX9_type 25 = .ok (.ireturn, 1) := by decide +kernel
theorem dX9_type_26 : decode cX9_type 26 = .ok (.aload_n 0, 1) := by decide +kernel
theorem dX9_type_27 : decode cX9_type 27 = .ok (.getfield 17, 3) := by decide +kernel
theorem dX9_type_30 : decode cX9_type 30 = .ok (.aload_n 0, 1) := by decide +kernel
theorem dX9_type_31 : decode cX9_type 31 = .ok (.getfield 111, 3) := by decide +kernel
theorem dX9_type_34 : decode cX9_type 34 = .ok (.iload_n 1, 1) := by decide +kernel
theorem dX9_type_35 : decode cX9_type 35 = .ok (.i2c, 1) := by decide +kernel
theorem dX9_type_36 : decode cX9_type 36 = .ok (.castore, 1) := by decide +kernel
theorem dX9_type_37 : decode cX9_type 37 = .ok (.aload_n 0, 1) := by decide +kernel
theorem dX9_type_38 : decode cX9_type 38 = .ok (.dup, 1) := by decide +kernel
theorem dX9_type_39 : decode cX9_type 39 = .ok (.getfield 111, 3) := by decide +kernel
theorem dX9_type_42 : decode cX9_type 42 = .ok (.iconst 1, 1) := by decide +kernel
theorem dX9_type_43 : decode cX9_type 43 = .ok (.iadd, 1) := by decide +kernel
theorem dX9_type_44 : decode cX9_type 44 = .ok (.putfield 111, 3) := by decide +kernel
theorem dX9_type_47 : decode cX9_type 47 = .ok (.aload_n 0, 1) := by decide +kernel
theorem dX9_type_48 : decode cX9_type 48 = .ok (.getfield 111, 3) := by decide +kernel
theorem dX9_type_51 : decode cX9_type 51 = .ok (.ireturn, 1) := by decide +kernel
theorem dX9_clearText_0 : decode cX9_clearText 0 = .ok (.aload_n 0, 1) := by decide +kernel
theorem dX9_clearText_1 : decode cX9_clearText 1 = .ok (.getfield 111, 3) := by decide +kernel
theorem dX9_clearText_4 : decode cX9_clearText 4 = .ok (.istore_n 1, 1) := by decide +kernel
theorem dX9_clearText_5 : decode cX9_clearText 5 = .ok (.aload_n 0, 1) := by decide +kernel
theorem dX9_clearText_6 : decode cX9_clearText 6 = .ok (.iconst 0, 1) := by decide +kernel
theorem dX9_clearText_7 : decode cX9_clearText 7 = .ok (.putfield 111, 3) := by decide +kernel
theorem dX9_clearText_10 : decode cX9_clearText 10 = .ok (.iload_n 1, 1) := by decide +kernel
theorem dX9_clearText_11 : decode cX9_clearText 11 = .ok (.ireturn, 1) := by decide +kernel
theorem dX9_sign_0 : decode cX9_sign 0 = .ok (.aload_n 0, 1) := by decide +kernel
theorem dX9_sign_1 : decode cX9_sign 1 = .ok (.getfield 114, 3) := by decide +kernel
theorem dX9_sign_4 : decode cX9_sign 4 = .ok (.aload_n 0, 1) := by decide +kernel
theorem dX9_sign_5 : decode cX9_sign 5 = .ok (.getfield 111, 3) := by decide +kernel
theorem dX9_sign_8 : decode cX9_sign 8 = .ok (.if_icmp .ge 15, 3) := by decide +kernel
theorem dX9_sign_11 : decode cX9_sign 11 = .ok (.aload_n 0, 1) := by decide +kernel
theorem dX9_sign_12 : decode cX9_sign 12 = .ok (.getfield 17, 3) := by decide +kernel
theorem dX9_sign_15 : decode cX9_sign 15 = .ok (.aload_n 0, 1) := by decide +kernel
theorem dX9_sign_16 : decode cX9_sign 16 = .ok (.getfield 114, 3) := by decide +kernel
theorem dX9_sign_19 : decode cX9_sign 19 = .ok (.caload, 1) := by decide +kernel
theorem dX9_sign_20 : decode cX9_sign 20 = .ok (.goto 4, 3) := by decide +kernel
theorem dX9_sign_23 : decode cX9_sign 23 = .ok (.iconst 0, 1) := by decide +kernel
theorem dX9_sign_24 : decode cX9_sign 24 = .ok (.ireturn, 1) := by decide +kernel
theorem dX9_number_0 : decode cX9_number 0 = .ok (.iload_n 2, 1) := by decide +kernel
theorem dX9_number_1 : decode cX9_number 1 = .ok (.ifCond .eq 16, 3) := by decide +kernel
theorem dX9_number_4 : decode cX9_number 4 = .ok (.aload_n 0, 1) := by decide +kernel
theorem dX9_number_5 : decode cX9_number 5 = .ok (.invokevirtual 117, 3) := by decide +kernel
theorem dX9_number_8 : decode cX9_number 8 = .ok (.bipush 45, 2) := by decide +kernel
theorem dX9_number_10 : decode cX9_number 10 = .ok (.if_icmp .ne 7, 3) := by decide +kernel
theorem dX9_number_13 : decode cX9_number 13 = .ok (.iconst 1, 1) := by decide +kernel
theorem dX9_number_14 : decode cX9_number 14 = .ok (.goto 4, 3) := by decide +kernel
theorem dX9_number_17 : decode cX9_number 17 = .ok (.iconst 0, 1) := by decide +kernel
theorem dX9_number_18 : decode cX9_number 18 = .ok (.istore_n 3, 1) := by decide +kernel
theorem dX9_number_19 : decode cX9_number 19 = .ok (.aload_n 0, 1) := by decide +kernel
theorem dX9_number_20 : decode cX9_number 20 = .ok (.dup, 1) := by decide +kernel
theorem dX9_number_21 : decode cX9_number 21 = .ok (.getfield 114, 3) := by decide +kernel
theorem dX9_number_24 : decode cX9_number 24 = .ok (.iload_n 3, 1) := by decide +kernel
theorem dX9_number_25 : decode cX9_number 25 = .ok (.ifCond .eq 7, 3) := by decide +kernel
theorem dX9_number_28 : decode cX9_number 28 = .ok (.iconst 1, 1) := by decide +kernel
theorem dX9_number_29 : decode cX9_number 29 = .ok (.goto 4, 3) := by decide +kernel
theorem dX9_number_32 : decode cX9_number 32 = .ok (.iconst 0, 1) := by decide +kernel
theorem dX9_number_33 : decode cX9_number 33 = .ok (.iadd, 1) := by decide +kernel
theorem dX9_number_34 : decode cX9_number 34 = .ok (.putfield 114, 3) := by decide +kernel
theorem dX9_number_37 : decode cX9_number 37 = .ok (.aload_n 0, 1) := by decide +kernel
theorem dX9_number_38 : decode cX9_number 38 = .ok (.getfield 114, 3) := by decide +kernel
theorem dX9_number_41 : decode cX9_number 41 = .ok (.istore 4, 2) := by decide +kernel
theorem dX9_number_43 : decode cX9_number 43 = .ok (.iconst 0, 1) := by decide +kernel
theorem dX9_number_44 : decode cX9_number 44 = .ok (.istore 5, 2) := by decide +kernel
theorem dX9_number_46 : decode cX9_number 46 = .ok (.aload_n 0, 1) := by decide +kernel
theorem dX9_number_47 : decode cX9_number 47 = .ok (.getfield 114, 3) := by decide +kernel
theorem dX9_number_50 : decode cX9_number 50 = .ok (.iload 4, 2) := by decide +kernel
theorem dX9_number_52 : decode cX9_number 52 = .ok (.iconst 5, 1) := by decide +kernel
theorem dX9_number_53 : decode cX9_number 53 = .ok (.iadd, 1) := by decide +kernel
theorem dX9_number_54 : decode cX9_number 54 = .ok (.if_icmp .ge 45, 3) := by decide +kernel
theorem dX9_number_57 : decode cX9_number 57 = .ok (.aload_n 0, 1) := by decide +kernel
theorem dX9_number_58 : decode cX9_number 58 = .ok (.invokevirtual 117, 3) := by decide +kernel
theorem dX9_number_61 : decode cX9_number 61 = .ok (.bipush 48, 2) := by decide +kernel
theorem dX9_number_63 : decode cX9_number 63 = .ok (.bipush 57, 2) := by decide +kernel
theorem dX9_number_65 : decode cX9_number 65 = .ok (.invokestatic 54, 3) := by decide +kernel
theorem dX9_number_68 : decode cX9_number 68 = .ok (.ifCond .eq 31, 3) := by decide +kernel
theorem dX9_number_71 : decode cX9_number 71 = .ok (.bipush 10, 2) := by decide +kernel
theorem dX9_number_73 : decode cX9_number 73 = .ok (.iload 5, 2) := by decide +kernel
theorem dX9_number_75 : decode cX9_number 75 = .ok (.imul, 1) := by decide +kernel
theorem dX9_number_76 : decode cX9_number 76 = .ok (.aload_n 0, 1) := by decide +kernel
theorem dX9_number_77 : decode cX9_number 77 = .ok (.invokevirtual 117, 3) := by decide +kernel
theorem dX9_number_80 : decode cX9_number 80 = .ok (.iadd, 1) := by decide +kernel
theorem dX9_number_81 : decode cX9_number 81 = .ok (.bipush 48, 2) := by decide +kernel
theorem dX9_number_83 : decode cX9_number 83 = .ok (.isub, 1) := by decide +kernel
theorem dX9_number_84 : decode cX9_number 84 = .ok (.istore 5, 2) := by decide +kernel
theorem dX9_number_86 : decode cX9_number 86 = .ok (.aload_n 0, 1) := by decide +kernel
theorem dX9_number_87 : decode cX9_number 87 = .ok (.dup, 1) := by decide +kernel
theorem dX9_number_88 : decode cX9_number 88 = .ok (.getfield 114, 3) := by decide +kernel
theorem dX9_number_91 : decode cX9_number 91 = .ok (.iconst 1, 1) := by decide +kernel
theorem dX9_number_92 : decode cX9_number 92 = .ok (.iadd, 1) := by decide +kernel
theorem dX9_number_93 : decode cX9_number 93 = .ok (.putfield 114, 3) := by decide +kernel
theorem dX9_number_96 : decode cX9_number 96 = .ok (.goto (-50), 3) := by decide +kernel
theorem dX9_number_99 : decode cX9_number 99 = .ok (.aload_n 0, 1) := by decide +kernel
theorem dX9_number_100 : decode cX9_number 100 = .ok (.getfield 21, 3) := by decide +kernel
theorem dX9_number_103 : decode cX9_number 103 = .ok (.iload_n 1, 1) := by decide +kernel
theorem dX9_number_104 : decode cX9_number 104 = .ok (.iload_n 3, 1) := by decide +kernel
theorem dX9_number_105 : decode cX9_number 105 = .ok (.ifCond .eq 9, 3) := by decide +kernel
theorem dX9_number_108 : decode cX9_number 108 = .ok (.iload 5, 2) := by decide +kernel
theorem dX9_number_110 : decode cX9_number 110 = .ok (.ineg, 1) := by decide +kernel
theorem dX9_number_111 : decode cX9_number 111 = .ok (.goto 5, 3) := by decide +kernel
theorem dX9_number_114 : decode cX9_number 114 = .ok (.iload 5, 2) := by decide +kernel
theorem dX9_number_116 : decode cX9_number 116 = .ok (.iastore, 1) := by decide +kernel
theorem dX9_number_117 : decode cX9_number 117 = .ok (.aload_n 0, 1) := by decide +kernel
theorem dX9_number_118 : decode cX9_number 118 = .ok (.getfield 114, 3) := by decide +kernel
theorem dX9_number_121 : decode cX9_number 121 = .ok (.iload 4, 2) := by decide +kernel
theorem dX9_number_123 : decode cX9_number 123 = .ok (.if_icmp .le 7, 3) := by decide +kernel
theorem dX9_number_126 : decode cX9_number 126 = .ok (.iconst 1, 1) := by decide +kernel
theorem dX9_number_127 : decode cX9_number 127 = .ok (.goto 4, 3) := by decide +kernel
theorem dX9_number_130 : decode cX9_number 130 = .ok (.iconst 0, 1) := by decide +kernel
theorem dX9_number_131 : decode cX9_number 131 = .ok (.ireturn, 1) := by decide +kernel
theorem dX9_takes_0 : decode cX9_takes 0 = .ok (.aload_n 0, 1) := by decide +kernel
theorem dX9_takes_1 : decode cX9_takes 1 = .ok (.invokevirtual 117, 3) := by decide +kernel
theorem dX9_takes_4 : decode cX9_takes 4 = .ok (.iload_n 1, 1) := by decide +kernel
theorem dX9_takes_5 : decode cX9_takes 5 = .ok (.if_icmp .eq 5, 3) := by decide +kernel
theorem dX9_takes_8 : decode cX9_takes 8 = .ok (.iconst 0, 1) := by decide +kernel
theorem dX9_takes_9 : decode cX9_takes 9 = .ok (.ireturn, 1) := by decide +kernel
theorem dX9_takes_10 : decode cX9_takes 10 = .ok (.aload_n 0, 1) := by decide +kernel
theorem dX9_takes_11 : decode cX9_takes 11 = .ok (.dup, 1) := by decide +kernel
theorem dX9_takes_12 : decode cX9_takes 12 = .ok (.getfield 114, 3) := by decide +kernel
theorem dX9_takes_15 : decode cX9_takes 15 = .ok (.iconst 1, 1) := by decide +kernel
theorem dX9_takes_16 : decode cX9_takes 16 = .ok (.iadd, 1) := by decide +kernel
theorem dX9_takes_17 : decode cX9_takes 17 = .ok (.putfield 114, 3) := by decide +kernel
theorem dX9_takes_20 : decode cX9_takes 20 = .ok (.iconst 1, 1) := by decide +kernel
theorem dX9_takes_21 : decode cX9_takes 21 = .ok (.ireturn, 1) := by decide +kernel
theorem dX9_order_0 : decode cX9_order 0 = .ok (.iload_n 1, 1) := by decide +kernel
theorem dX9_order_1 : decode cX9_order 1 = .ok (.bipush 115, 2) := by decide +kernel
theorem dX9_order_3 : decode cX9_order 3 = .ok (.if_icmp .eq 33, 3) := by decide +kernel
theorem dX9_order_6 : decode cX9_order 6 = .ok (.iload_n 1, 1) := by decide +kernel
theorem dX9_order_7 : decode cX9_order 7 = .ok (.bipush 122, 2) := by decide +kernel
theorem dX9_order_9 : decode cX9_order 9 = .ok (.if_icmp .eq 27, 3) := by decide +kernel
theorem dX9_order_12 : decode cX9_order 12 = .ok (.iload_n 1, 1) := by decide +kernel
theorem dX9_order_13 : decode cX9_order 13 = .ok (.bipush 116, 2) := by decide +kernel
theorem dX9_order_15 : decode cX9_order 15 = .ok (.if_icmp .eq 21, 3) := by decide +kernel
theorem dX9_order_18 : decode cX9_order 18 = .ok (.iload_n 1, 1) := by decide +kernel
theorem dX9_order_19 : decode cX9_order 19 = .ok (.bipush 102, 2) := by decide +kernel
theorem dX9_order_21 : decode cX9_order 21 = .ok (.if_icmp .eq 15, 3) := by decide +kernel
theorem dX9_order_24 : decode cX9_order 24 = .ok (.iload_n 1, 1) := by decide +kernel
theorem dX9_order_25 : decode cX9_order 25 = .ok (.bipush 107, 2) := by decide +kernel
theorem dX9_order_27 : decode cX9_order 27 = .ok (.if_icmp .eq 9, 3) := by decide +kernel
theorem dX9_order_30 : decode cX9_order 30 = .ok (.iload_n 1, 1) := by decide +kernel
theorem dX9_order_31 : decode cX9_order 31 = .ok (.bipush 103, 2) := by decide +kernel
theorem dX9_order_33 : decode cX9_order 33 = .ok (.if_icmp .ne 7, 3) := by decide +kernel
theorem dX9_order_36 : decode cX9_order 36 = .ok (.iconst 1, 1) := by decide +kernel
theorem dX9_order_37 : decode cX9_order 37 = .ok (.goto 4, 3) := by decide +kernel
theorem dX9_order_40 : decode cX9_order 40 = .ok (.iconst 0, 1) := by decide +kernel
theorem dX9_order_41 : decode cX9_order 41 = .ok (.istore_n 2, 1) := by decide +kernel
theorem dX9_order_42 : decode cX9_order 42 = .ok (.iload_n 2, 1) := by decide +kernel
theorem dX9_order_43 : decode cX9_order 43 = .ok (.ifCond .ne 5, 3) := by decide +kernel
theorem dX9_order_46 : decode cX9_order 46 = .ok (.iconst 0, 1) := by decide +kernel
theorem dX9_order_47 : decode cX9_order 47 = .ok (.ireturn, 1) := by decide +kernel
theorem dX9_order_48 : decode cX9_order 48 = .ok (.aload_n 0, 1) := by decide +kernel
theorem dX9_order_49 : decode cX9_order 49 = .ok (.dup, 1) := by decide +kernel
theorem dX9_order_50 : decode cX9_order 50 = .ok (.getfield 114, 3) := by decide +kernel
theorem dX9_order_53 : decode cX9_order 53 = .ok (.iconst 1, 1) := by decide +kernel
theorem dX9_order_54 : decode cX9_order 54 = .ok (.iadd, 1) := by decide +kernel
theorem dX9_order_55 : decode cX9_order 55 = .ok (.putfield 114, 3) := by decide +kernel
theorem dX9_order_58 : decode cX9_order 58 = .ok (.aload_n 0, 1) := by decide +kernel
theorem dX9_order_59 : decode cX9_order 59 = .ok (.iconst 0, 1) := by decide +kernel
theorem dX9_order_60 : decode cX9_order 60 = .ok (.iload_n 1, 1) := by decide +kernel
theorem dX9_order_61 : decode cX9_order 61 = .ok (.bipush 115, 2) := by decide +kernel
theorem dX9_order_63 : decode cX9_order 63 = .ok (.if_icmp .ne 7, 3) := by decide +kernel
theorem dX9_order_66 : decode cX9_order 66 = .ok (.iconst 1, 1) := by decide +kernel
theorem dX9_order_67 : decode cX9_order 67 = .ok (.goto 4, 3) := by decide +kernel
theorem dX9_order_70 : decode cX9_order 70 = .ok (.iconst 0, 1) := by decide +kernel
theorem dX9_order_71 : decode cX9_order 71 = .ok (.invokevirtual 121, 3) := by decide +kernel
theorem dX9_order_74 : decode cX9_order 74 = .ok (.istore_n 2, 1) := by decide +kernel
theorem dX9_order_75 : decode cX9_order 75 = .ok (.iload_n 1, 1) := by decide +kernel
theorem dX9_order_76 : decode cX9_order 76 = .ok (.bipush 116, 2) := by decide +kernel
theorem dX9_order_78 : decode cX9_order 78 = .ok (.if_icmp .eq 9, 3) := by decide +kernel
theorem dX9_order_81 : decode cX9_order 81 = .ok (.iload_n 1, 1) := by decide +kernel
theorem dX9_order_82 : decode cX9_order 82 = .ok (.bipush 102, 2) := by decide +kernel
theorem dX9_order_84 : decode cX9_order 84 = .ok (.if_icmp .ne 31, 3) := by decide +kernel
theorem dX9_order_87 : decode cX9_order 87 = .ok (.iload_n 2, 1) := by decide +kernel
theorem dX9_order_88 : decode cX9_order 88 = .ok (.ifCond .eq 25, 3) := by decide +kernel
theorem dX9_order_91 : decode cX9_order 91 = .ok (.aload_n 0, 1) := by decide +kernel
theorem dX9_order_92 : decode cX9_order 92 = .ok (.bipush 44, 2) := by decide +kernel
theorem dX9_order_94 : decode cX9_order 94 = .ok (.invokevirtual 125, 3) := by decide +kernel
theorem dX9_order_97 : decode cX9_order 97 = .ok (.ifCond .eq 16, 3) := by decide +kernel
theorem dX9_order_100 : decode cX9_order 100 = .ok (.aload_n 0, 1) := by decide +kernel
theorem dX9_order_101 : decode cX9_order 101 = .ok (.iconst 1, 1) := by decide +kernel
theorem dX9_order_102 : decode cX9_order 102 = .ok (.iconst 0, 1) := by decide +kernel
theorem dX9_order_103 : decode cX9_order 103 = .ok (.invokevirtual 121, 3) := by decide +kernel
theorem dX9_order_106 : decode cX9_order 106 = .ok (.ifCond .eq 7, 3) := by decide +kernel
theorem dX9_order_109 : decode cX9_order 109 = .ok (.iconst 1, 1) := by decide +kernel
theorem dX9_order_110 : decode cX9_order 110 = .ok (.goto 4, 3) := by decide +kernel
theorem dX9_order_113 : decode cX9_order 113 = .ok (.iconst 0, 1) := by decide +kernel
theorem dX9_order_114 : decode cX9_order 114 = .ok (.istore_n 2, 1) := by decide +kernel
theorem dX9_order_115 : decode cX9_order 115 = .ok (.iload_n 1, 1) := by decide +kernel
theorem dX9_order_116 : decode cX9_order 116 = .ok (.bipush 116, 2) := by decide +kernel
theorem dX9_order_118 : decode cX9_order 118 = .ok (.if_icmp .ne 31, 3) := by decide +kernel
theorem dX9_order_121 : decode cX9_order 121 = .ok (.iload_n 2, 1) := by decide +kernel
theorem dX9_order_122 : decode cX9_order 122 = .ok (.ifCond .eq 25, 3) := by decide +kernel
theorem dX9_order_125 : decode cX9_order 125 = .ok (.aload_n 0, 1) := by decide +kernel
theorem dX9_order_126 : decode cX9_order 126 = .ok (.bipush 44, 2) := by decide +kernel
theorem dX9_order_128 : decode cX9_order 128 = .ok (.invokevirtual 125, 3) := by decide +kernel
theorem dX9_order_131 : decode cX9_order 131 = .ok (.ifCond .eq 16, 3) := by decide +kernel
theorem dX9_order_134 : decode cX9_order 134 = .ok (.aload_n 0, 1) := by decide +kernel
theorem dX9_order_135 : decode cX9_order 135 = .ok (.iconst 2, 1) := by decide +kernel
theorem dX9_order_136 : decode cX9_order 136 = .ok (.iconst 1, 1) := by decide +kernel
theorem dX9_order_137 : decode cX9_order 137 = .ok (.invokevirtual 121, 3) := by decide +kernel
theorem dX9_order_140 : decode cX9_order 140 = .ok (.ifCond .eq 7, 3) := by decide +kernel
theorem dX9_order_143 : decode cX9_order 143 = .ok (.iconst 1, 1) := by decide +kernel
theorem dX9_order_144 : decode cX9_order 144 = .ok (.goto 4, 3) := by decide +kernel
theorem dX9_order_147 : decode cX9_order 147 = .ok (.iconst 0, 1) := by decide +kernel
theorem dX9_order_148 : decode cX9_order 148 = .ok (.istore_n 2, 1) := by decide +kernel
theorem dX9_order_149 : decode cX9_order 149 = .ok (.iload_n 2, 1) := by decide +kernel
theorem dX9_order_150 : decode cX9_order 150 = .ok (.ifCond .eq 16, 3) := by decide +kernel
theorem dX9_order_153 : decode cX9_order 153 = .ok (.aload_n 0, 1) := by decide +kernel
theorem dX9_order_154 : decode cX9_order 154 = .ok (.bipush 59, 2) := by decide +kernel
theorem dX9_order_156 : decode cX9_order 156 = .ok (.invokevirtual 125, 3) := by decide +kernel
theorem dX9_order_159 : decode cX9_order 159 = .ok (.ifCond .eq 7, 3) := by decide +kernel
theorem dX9_order_162 : decode cX9_order 162 = .ok (.iconst 1, 1) := by decide +kernel
theorem dX9_order_163 : decode cX9_order 163 = .ok (.goto 4, 3) := by decide +kernel
theorem dX9_order_166 : decode cX9_order 166 = .ok (.iconst 0, 1) := by decide +kernel
theorem dX9_order_167 : decode cX9_order 167 = .ok (.ireturn, 1) := by decide +kernel
theorem dX9_does_0 : decode cX9_does 0 = .ok (.iload_n 1, 1) := by decide +kernel
theorem dX9_does_1 : decode cX9_does 1 = .ok (.lookupswitch 124 #[(102, 96), (107, 113), (115, 51), (116, 73), (122, 62)], 51) := by decide +kernel
theorem dX9_does_52 : decode cX9_does 52 = .ok (.aload_n 0, 1) := by decide +kernel
theorem dX9_does_53 : decode cX9_does 53 = .ok (.aload_n 0, 1) := by decide +kernel
theorem dX9_does_54 : decode cX9_does 54 = .ok (.getfield 21, 3) := by decide +kernel
theorem dX9_does_57 : decode cX9_does 57 = .ok (.iconst 0, 1) := by decide +kernel
theorem dX9_does_58 : decode cX9_does 58 = .ok (.iaload, 1) := by decide +kernel
theorem dX9_does_59 : decode cX9_does 59 = .ok (.invokevirtual 66, 3) := by decide +kernel
theorem dX9_does_62 : decode cX9_does 62 = .ok (.ireturn, 1) := by decide +kernel
theorem dX9_does_63 : decode cX9_does 63 = .ok (.aload_n 0, 1) := by decide +kernel
theorem dX9_does_64 : decode cX9_does 64 = .ok (.aload_n 0, 1) := by decide +kernel
theorem dX9_does_65 : decode cX9_does 65 = .ok (.getfield 21, 3) := by decide +kernel
theorem dX9_does_68 : decode cX9_does 68 = .ok (.iconst 0, 1) := by decide +kernel
theorem dX9_does_69 : decode cX9_does 69 = .ok (.iaload, 1) := by decide +kernel
theorem dX9_does_70 : decode cX9_does 70 = .ok (.invokevirtual 72, 3) := by decide +kernel
theorem dX9_does_73 : decode cX9_does 73 = .ok (.ireturn, 1) := by decide +kernel
theorem dX9_does_74 : decode cX9_does 74 = .ok (.aload_n 0, 1) := by decide +kernel
theorem dX9_does_75 : decode cX9_does 75 = .ok (.aload_n 0, 1) := by decide +kernel
theorem dX9_does_76 : decode cX9_does 76 = .ok (.getfield 21, 3) := by decide +kernel
theorem dX9_does_79 : decode cX9_does 79 = .ok (.iconst 0, 1) := by decide +kernel
theorem dX9_does_80 : decode cX9_does 80 = .ok (.iaload, 1) := by decide +kernel
theorem dX9_does_81 : decode cX9_does 81 = .ok (.aload_n 0, 1) := by decide +kernel
theorem dX9_does_82 : decode cX9_does 82 = .ok (.getfield 21, 3) := by decide +kernel
theorem dX9_does_85 : decode cX9_does 85 = .ok (.iconst 1, 1) := by decide +kernel
theorem dX9_does_86 : decode cX9_does 86 = .ok (.iaload, 1) := by decide +kernel
theorem dX9_does_87 : decode cX9_does 87 = .ok (.aload_n 0, 1) := by decide +kernel
theorem dX9_does_88 : decode cX9_does 88 = .ok (.getfield 21, 3) := by decide +kernel
theorem dX9_does_91 : decode cX9_does 91 = .ok (.iconst 2, 1) := by decide +kernel
theorem dX9_does_92 : decode cX9_does 92 = .ok (.iaload, 1) := by decide +kernel
theorem dX9_does_93 : decode cX9_does 93 = .ok (.invokevirtual 75, 3) := by decide +kernel
theorem dX9_does_96 : decode cX9_does 96 = .ok (.ireturn, 1) := by decide +kernel
theorem dX9_does_97 : decode cX9_does 97 = .ok (.aload_n 0, 1) := by decide +kernel
theorem dX9_does_98 : decode cX9_does 98 = .ok (.aload_n 0, 1) := by decide +kernel
theorem dX9_does_99 : decode cX9_does 99 = .ok (.getfield 21, 3) := by decide +kernel
theorem dX9_does_102 : decode cX9_does 102 = .ok (.iconst 0, 1) := by decide +kernel
theorem dX9_does_103 : decode cX9_does 103 = .ok (.iaload, 1) := by decide +kernel
theorem dX9_does_104 : decode cX9_does 104 = .ok (.aload_n 0, 1) := by decide +kernel
theorem dX9_does_105 : decode cX9_does 105 = .ok (.getfield 21, 3) := by decide +kernel
theorem dX9_does_108 : decode cX9_does 108 = .ok (.iconst 1, 1) := by decide +kernel
theorem dX9_does_109 : decode cX9_does 109 = .ok (.iaload, 1) := by decide +kernel
theorem dX9_does_110 : decode cX9_does 110 = .ok (.invokevirtual 79, 3) := by decide +kernel
theorem dX9_does_113 : decode cX9_does 113 = .ok (.ireturn, 1) := by decide +kernel
theorem dX9_does_114 : decode cX9_does 114 = .ok (.aload_n 0, 1) := by decide +kernel
theorem dX9_does_115 : decode cX9_does 115 = .ok (.aload_n 0, 1) := by decide +kernel
theorem dX9_does_116 : decode cX9_does 116 = .ok (.getfield 21, 3) := by decide +kernel
theorem dX9_does_119 : decode cX9_does 119 = .ok (.iconst 0, 1) := by decide +kernel
theorem dX9_does_120 : decode cX9_does 120 = .ok (.iaload, 1) := by decide +kernel
theorem dX9_does_121 : decode cX9_does 121 = .ok (.invokevirtual 82, 3) := by decide +kernel
theorem dX9_does_124 : decode cX9_does 124 = .ok (.ireturn, 1) := by decide +kernel
theorem dX9_does_125 : decode cX9_does 125 = .ok (.aload_n 0, 1) := by decide +kernel
theorem dX9_does_126 : decode cX9_does 126 = .ok (.aload_n 0, 1) := by decide +kernel
theorem dX9_does_127 : decode cX9_does 127 = .ok (.getfield 21, 3) := by decide +kernel
theorem dX9_does_130 : decode cX9_does 130 = .ok (.iconst 0, 1) := by decide +kernel
theorem dX9_does_131 : decode cX9_does 131 = .ok (.iaload, 1) := by decide +kernel
theorem dX9_does_132 : decode cX9_does 132 = .ok (.invokevirtual 85, 3) := by decide +kernel
theorem dX9_does_135 : decode cX9_does 135 = .ok (.ireturn, 1) := by decide +kernel
theorem dX9_goesOn_0 : decode cX9_goesOn 0 = .ok (.aload_n 0, 1) := by decide +kernel
theorem dX9_goesOn_1 : decode cX9_goesOn 1 = .ok (.iconst 0, 1) := by decide +kernel
theorem dX9_goesOn_2 : decode cX9_goesOn 2 = .ok (.putfield 114, 3) := by decide +kernel
theorem dX9_goesOn_5 : decode cX9_goesOn 5 = .ok (.iconst 0, 1) := by decide +kernel
theorem dX9_goesOn_6 : decode cX9_goesOn 6 = .ok (.istore_n 1, 1) := by decide +kernel
theorem dX9_goesOn_7 : decode cX9_goesOn 7 = .ok (.aload_n 0, 1) := by decide +kernel
theorem dX9_goesOn_8 : decode cX9_goesOn 8 = .ok (.getfield 114, 3) := by decide +kernel
theorem dX9_goesOn_11 : decode cX9_goesOn 11 = .ok (.aload_n 0, 1) := by decide +kernel
theorem dX9_goesOn_12 : decode cX9_goesOn 12 = .ok (.getfield 111, 3) := by decide +kernel
theorem dX9_goesOn_15 : decode cX9_goesOn 15 = .ok (.if_icmp .ge 77, 3) := by decide +kernel
theorem dX9_goesOn_18 : decode cX9_goesOn 18 = .ok (.aload_n 0, 1) := by decide +kernel
theorem dX9_goesOn_19 : decode cX9_goesOn 19 = .ok (.getfield 114, 3) := by decide +kernel
theorem dX9_goesOn_22 : decode cX9_goesOn 22 = .ok (.istore_n 2, 1) := by decide +kernel
theorem dX9_goesOn_23 : decode cX9_goesOn 23 = .ok (.aload_n 0, 1) := by decide +kernel
theorem dX9_goesOn_24 : decode cX9_goesOn 24 = .ok (.invokevirtual 117, 3) := by decide +kernel
theorem dX9_goesOn_27 : decode cX9_goesOn 27 = .ok (.istore_n 3, 1) := by decide +kernel
theorem dX9_goesOn_28 : decode cX9_goesOn 28 = .ok (.aload_n 0, 1) := by decide +kernel
theorem dX9_goesOn_29 : decode cX9_goesOn 29 = .ok (.iload_n 3, 1) := by decide +kernel
theorem dX9_goesOn_30 : decode cX9_goesOn 30 = .ok (.invokevirtual 129, 3) := by decide +kernel
theorem dX9_goesOn_33 : decode cX9_goesOn 33 = .ok (.ifCond .ne 23, 3) := by decide +kernel
theorem dX9_goesOn_36 : decode cX9_goesOn 36 = .ok (.aload_n 0, 1) := by decide +kernel
theorem dX9_goesOn_37 : decode cX9_goesOn 37 = .ok (.iconst 1, 1) := by decide +kernel
theorem dX9_goesOn_38 : decode cX9_goesOn 38 = .ok (.putfield 132, 3) := by decide +kernel
theorem dX9_goesOn_41 : decode cX9_goesOn 41 = .ok (.aload_n 0, 1) := by decide +kernel
theorem dX9_goesOn_42 : decode cX9_goesOn 42 = .ok (.aload_n 0, 1) := by decide +kernel
theorem dX9_goesOn_43 : decode cX9_goesOn 43 = .ok (.getfield 114, 3) := by decide +kernel
theorem dX9_goesOn_46 : decode cX9_goesOn 46 = .ok (.iload_n 2, 1) := by decide +kernel
theorem dX9_goesOn_47 : decode cX9_goesOn 47 = .ok (.isub, 1) := by decide +kernel
theorem dX9_goesOn_48 : decode cX9_goesOn 48 = .ok (.putfield 135, 3) := by decide +kernel
theorem dX9_goesOn_51 : decode cX9_goesOn 51 = .ok (.iload_n 2, 1) := by decide +kernel
theorem dX9_goesOn_52 : decode cX9_goesOn 52 = .ok (.ineg, 1) := by decide +kernel
theorem dX9_goesOn_53 : decode cX9_goesOn 53 = .ok (.iconst 1, 1) := by decide +kernel
theorem dX9_goesOn_54 : decode cX9_goesOn 54 = .ok (.isub, 1) := by decide +kernel
theorem dX9_goesOn_55 : decode cX9_goesOn 55 = .ok (.ireturn, 1) := by decide +kernel
theorem dX9_goesOn_56 : decode cX9_goesOn 56 = .ok (.aload_n 0, 1) := by decide +kernel
theorem dX9_goesOn_57 : decode cX9_goesOn 57 = .ok (.iload_n 3, 1) := by decide +kernel
theorem dX9_goesOn_58 : decode cX9_goesOn 58 = .ok (.invokevirtual 138, 3) := by decide +kernel
theorem dX9_goesOn_61 : decode cX9_goesOn 61 = .ok (.istore 4, 2) := by decide +kernel
theorem dX9_goesOn_63 : decode cX9_goesOn 63 = .ok (.iload 4, 2) := by decide +kernel
theorem dX9_goesOn_65 : decode cX9_goesOn 65 = .ok (.ldc 28, 2) := by decide +kernel
theorem dX9_goesOn_67 : decode cX9_goesOn 67 = .ok (.if_icmp .gt 19, 3) := by decide +kernel
theorem dX9_goesOn_70 : decode cX9_goesOn 70 = .ok (.aload_n 0, 1) := by decide +kernel
theorem dX9_goesOn_71 : decode cX9_goesOn 71 = .ok (.iconst 2, 1) := by decide +kernel
theorem dX9_goesOn_72 : decode cX9_goesOn 72 = .ok (.putfield 132, 3) := by decide +kernel
theorem dX9_goesOn_75 : decode cX9_goesOn 75 = .ok (.aload_n 0, 1) := by decide +kernel
theorem dX9_goesOn_76 : decode cX9_goesOn 76 = .ok (.iload 4, 2) := by decide +kernel
theorem dX9_goesOn_78 : decode cX9_goesOn 78 = .ok (.putfield 135, 3) := by decide +kernel
theorem dX9_goesOn_81 : decode cX9_goesOn 81 = .ok (.iload_n 2, 1) := by decide +kernel
theorem dX9_goesOn_82 : decode cX9_goesOn 82 = .ok (.ineg, 1) := by decide +kernel
theorem dX9_goesOn_83 : decode cX9_goesOn 83 = .ok (.iconst 1, 1) := by decide +kernel
theorem dX9_goesOn_84 : decode cX9_goesOn 84 = .ok (.isub, 1) := by decide +kernel
theorem dX9_goesOn_85 : decode cX9_goesOn 85 = .ok (.ireturn, 1) := by decide +kernel
theorem dX9_goesOn_86 : decode cX9_goesOn 86 = .ok (.iinc 1 1, 3) := by decide +kernel
theorem dX9_goesOn_89 : decode cX9_goesOn 89 = .ok (.goto (-82), 3) := by decide +kernel
theorem dX9_goesOn_92 : decode cX9_goesOn 92 = .ok (.iload_n 1, 1) := by decide +kernel
theorem dX9_goesOn_93 : decode cX9_goesOn 93 = .ok (.ireturn, 1) := by decide +kernel
theorem dX9_fault_0 : decode cX9_fault 0 = .ok (.iload_n 1, 1) := by decide +kernel
theorem dX9_fault_1 : decode cX9_fault 1 = .ok (.iconst 0, 1) := by decide +kernel
theorem dX9_fault_2 : decode cX9_fault 2 = .ok (.iconst 2, 1) := by decide +kernel
theorem dX9_fault_3 : decode cX9_fault 3 = .ok (.invokestatic 54, 3) := by decide +kernel
theorem dX9_fault_6 : decode cX9_fault 6 = .ok (.ifCond .ne 6, 3) := by decide +kernel
theorem dX9_fault_9 : decode cX9_fault 9 = .ok (.ldc 28, 2) := by decide +kernel
theorem dX9_fault_11 : decode cX9_fault 11 = .ok (.ireturn, 1) := by decide +kernel
theorem dX9_fault_12 : decode cX9_fault 12 = .ok (.aload_n 0, 1) := by decide +kernel
theorem dX9_fault_13 : decode cX9_fault 13 = .ok (.invokevirtual 63, 3) := by decide +kernel
theorem dX9_fault_16 : decode cX9_fault 16 = .ok (.aload_n 0, 1) := by decide +kernel
theorem dX9_fault_17 : decode cX9_fault 17 = .ok (.invokevirtual 141, 3) := by decide +kernel
theorem dX9_fault_20 : decode cX9_fault 20 = .ok (.istore_n 2, 1) := by decide +kernel
theorem dX9_fault_21 : decode cX9_fault 21 = .ok (.aload_n 0, 1) := by decide +kernel
theorem dX9_fault_22 : decode cX9_fault 22 = .ok (.bipush 6, 2) := by decide +kernel
theorem dX9_fault_24 : decode cX9_fault 24 = .ok (.iconst 0, 1) := by decide +kernel
theorem dX9_fault_25 : decode cX9_fault 25 = .ok (.invokevirtual 24, 3) := by decide +kernel
theorem dX9_fault_28 : decode cX9_fault 28 = .ok (.iload_n 2, 1) := by decide +kernel
theorem dX9_fault_29 : decode cX9_fault 29 = .ok (.ifCond .lt 8, 3) := by decide +kernel
theorem dX9_fault_32 : decode cX9_fault 32 = .ok (.ldc 88, 2) := by decide +kernel
theorem dX9_fault_34 : decode cX9_fault 34 = .ok (.goto 30, 3) := by decide +kernel
theorem dX9_fault_37 : decode cX9_fault 37 = .ok (.iload_n 1, 1) := by decide +kernel
theorem dX9_fault_38 : decode cX9_fault 38 = .ok (.ifCond .ne 10, 3) := by decide +kernel
theorem dX9_fault_41 : decode cX9_fault 41 = .ok (.iload_n 2, 1) := by decide +kernel
theorem dX9_fault_42 : decode cX9_fault 42 = .ok (.ineg, 1) := by decide +kernel
theorem dX9_fault_43 : decode cX9_fault 43 = .ok (.iconst 1, 1) := by decide +kernel
theorem dX9_fault_44 : decode cX9_fault 44 = .ok (.isub, 1) := by decide +kernel
theorem dX9_fault_45 : decode cX9_fault 45 = .ok (.goto 19, 3) := by decide +kernel
theorem dX9_fault_48 : decode cX9_fault 48 = .ok (.iload_n 1, 1) := by decide +kernel
theorem dX9_fault_49 : decode cX9_fault 49 = .ok (.iconst 1, 1) := by decide +kernel
theorem dX9_fault_50 : decode cX9_fault 50 = .ok (.if_icmp .ne 10, 3) := by decide +kernel
theorem dX9_fault_53 : decode cX9_fault 53 = .ok (.aload_n 0, 1) := by decide +kernel
theorem dX9_fault_54 : decode cX9_fault 54 = .ok (.getfield 132, 3) := by decide +kernel
theorem dX9_fault_57 : decode cX9_fault 57 = .ok (.goto 7, 3) := by decide +kernel
theorem dX9_fault_60 : decode cX9_fault 60 = .ok (.aload_n 0, 1) := by decide +kernel
theorem dX9_fault_61 : decode cX9_fault 61 = .ok (.getfield 135, 3) := by decide +kernel
theorem dX9_fault_64 : decode cX9_fault 64 = .ok (.ireturn, 1) := by decide +kernel
theorem dX9_play_0 : decode cX9_play 0 = .ok (.aload_n 0, 1) := by decide +kernel
theorem dX9_play_1 : decode cX9_play 1 = .ok (.invokevirtual 63, 3) := by decide +kernel
theorem dX9_play_4 : decode cX9_play 4 = .ok (.aload_n 0, 1) := by decide +kernel
theorem dX9_play_5 : decode cX9_play 5 = .ok (.invokevirtual 141, 3) := by decide +kernel
theorem dX9_play_8 : decode cX9_play 8 = .ok (.istore_n 1, 1) := by decide +kernel
theorem dX9_play_9 : decode cX9_play 9 = .ok (.iload_n 1, 1) := by decide +kernel
theorem dX9_play_10 : decode cX9_play 10 = .ok (.ifCond .ge 13, 3) := by decide +kernel
theorem dX9_play_13 : decode cX9_play 13 = .ok (.aload_n 0, 1) := by decide +kernel
theorem dX9_play_14 : decode cX9_play 14 = .ok (.bipush 6, 2) := by decide +kernel
theorem dX9_play_16 : decode cX9_play 16 = .ok (.iconst 0, 1) := by decide +kernel
theorem dX9_play_17 : decode cX9_play 17 = .ok (.invokevirtual 24, 3) := by decide +kernel
theorem dX9_play_20 : decode cX9_play 20 = .ok (.ldc 62, 2) := by decide +kernel
theorem dX9_play_22 : decode cX9_play 22 = .ok (.ireturn, 1) := by decide +kernel
theorem dX9_play_23 : decode cX9_play 23 = .ok (.aload_n 0, 1) := by decide +kernel
theorem dX9_play_24 : decode cX9_play 24 = .ok (.iload_n 1, 1) := by decide +kernel
theorem dX9_play_25 : decode cX9_play 25 = .ok (.invokevirtual 69, 3) := by decide +kernel
theorem dX9_play_28 : decode cX9_play 28 = .ok (.ireturn, 1) := by decide +kernel
theorem dJxf58ca_isNaN_12338_0 : decode cJxf58ca_isNaN_12338 0 = .ok (.fload_n 0, 1) := by decide +kernel
theorem dJxf58ca_isNaN_12338_1 : decode cJxf58ca_isNaN_12338 1 = .ok (.fload_n 0, 1) := by decide +kernel
theorem dJxf58ca_isNaN_12338_2 : decode cJxf58ca_isNaN_12338 2 = .ok (.fcmp .l, 1) := by decide +kernel
theorem dJxf58ca_isNaN_12338_3 : decode cJxf58ca_isNaN_12338 3 = .ok (.ifCond .eq 7, 3) := by decide +kernel
theorem dJxf58ca_isNaN_12338_6 : decode cJxf58ca_isNaN_12338 6 = .ok (.iconst 1, 1) := by decide +kernel
theorem dJxf58ca_isNaN_12338_7 : decode cJxf58ca_isNaN_12338 7 = .ok (.goto 4, 3) := by decide +kernel
theorem dJxf58ca_isNaN_12338_10 : decode cJxf58ca_isNaN_12338 10 = .ok (.iconst 0, 1) := by decide +kernel
theorem dJxf58ca_isNaN_12338_11 : decode cJxf58ca_isNaN_12338 11 = .ok (.ireturn, 1) := by decide +kernel
theorem dJxf58ca_floatToIntBits_5c35a_0 : decode cJxf58ca_floatToIntBits_5c35a 0 = .ok (.fload_n 0, 1) := by decide +kernel
theorem dJxf58ca_floatToIntBits_5c35a_1 : decode cJxf58ca_floatToIntBits_5c35a 1 = .ok (.invokestatic 59, 3) := by decide +kernel
theorem dJxf58ca_floatToIntBits_5c35a_4 : decode cJxf58ca_floatToIntBits_5c35a 4 = .ok (.ifCond .ne 8, 3) := by decide +kernel
theorem dJxf58ca_floatToIntBits_5c35a_7 : decode cJxf58ca_floatToIntBits_5c35a 7 = .ok (.fload_n 0, 1) := by decide +kernel
theorem dJxf58ca_floatToIntBits_5c35a_8 : decode cJxf58ca_floatToIntBits_5c35a 8 = .ok (.invokestatic 74, 3) := by decide +kernel
theorem dJxf58ca_floatToIntBits_5c35a_11 : decode cJxf58ca_floatToIntBits_5c35a 11 = .ok (.ireturn, 1) := by decide +kernel
theorem dJxf58ca_floatToIntBits_5c35a_12 : decode cJxf58ca_floatToIntBits_5c35a 12 = .ok (.ldc 77, 2) := by decide +kernel
theorem dJxf58ca_floatToIntBits_5c35a_14 : decode cJxf58ca_floatToIntBits_5c35a 14 = .ok (.ireturn, 1) := by decide +kernel
theorem dJ9_floorMod_7cf53_0 : decode cJ9_floorMod_7cf53 0 = .ok (.iload_n 0, 1) := by decide +kernel
theorem dJ9_floorMod_7cf53_1 : decode cJ9_floorMod_7cf53 1 = .ok (.iload_n 1, 1) := by decide +kernel
theorem dJ9_floorMod_7cf53_2 : decode cJ9_floorMod_7cf53 2 = .ok (.irem, 1) := by decide +kernel
theorem dJ9_floorMod_7cf53_3 : decode cJ9_floorMod_7cf53 3 = .ok (.istore_n 2, 1) := by decide +kernel
theorem dJ9_floorMod_7cf53_4 : decode cJ9_floorMod_7cf53 4 = .ok (.iload_n 0, 1) := by decide +kernel
theorem dJ9_floorMod_7cf53_5 : decode cJ9_floorMod_7cf53 5 = .ok (.iload_n 1, 1) := by decide +kernel
theorem dJ9_floorMod_7cf53_6 : decode cJ9_floorMod_7cf53 6 = .ok (.ixor, 1) := by decide +kernel
theorem dJ9_floorMod_7cf53_7 : decode cJ9_floorMod_7cf53 7 = .ok (.ifCond .ge 11, 3) := by decide +kernel
theorem dJ9_floorMod_7cf53_10 : decode cJ9_floorMod_7cf53 10 = .ok (.iload_n 2, 1) := by decide +kernel
theorem dJ9_floorMod_7cf53_11 : decode cJ9_floorMod_7cf53 11 = .ok (.ifCond .eq 7, 3) := by decide +kernel
theorem dJ9_floorMod_7cf53_14 : decode cJ9_floorMod_7cf53 14 = .ok (.iload_n 2, 1) := by decide +kernel
theorem dJ9_floorMod_7cf53_15 : decode cJ9_floorMod_7cf53 15 = .ok (.iload_n 1, 1) := by decide +kernel
theorem dJ9_floorMod_7cf53_16 : decode cJ9_floorMod_7cf53 16 = .ok (.iadd, 1) := by decide +kernel
theorem dJ9_floorMod_7cf53_17 : decode cJ9_floorMod_7cf53 17 = .ok (.ireturn, 1) := by decide +kernel
theorem dJ9_floorMod_7cf53_18 : decode cJ9_floorMod_7cf53 18 = .ok (.iload_n 2, 1) := by decide +kernel
theorem dJ9_floorMod_7cf53_19 : decode cJ9_floorMod_7cf53 19 = .ok (.ireturn, 1) := by decide +kernel
theorem dJ9_abs_0f7a4_0 : decode cJ9_abs_0f7a4 0 = .ok (.iload_n 0, 1) := by decide +kernel
theorem dJ9_abs_0f7a4_1 : decode cJ9_abs_0f7a4 1 = .ok (.ifCond .ge 8, 3) := by decide +kernel
theorem dJ9_abs_0f7a4_4 : decode cJ9_abs_0f7a4 4 = .ok (.iload_n 0, 1) := by decide +kernel
theorem dJ9_abs_0f7a4_5 : decode cJ9_abs_0f7a4 5 = .ok (.ineg, 1) := by decide +kernel
theorem dJ9_abs_0f7a4_6 : decode cJ9_abs_0f7a4 6 = .ok (.goto 4, 3) := by decide +kernel
theorem dJ9_abs_0f7a4_9 : decode cJ9_abs_0f7a4 9 = .ok (.iload_n 0, 1) := by decide +kernel
theorem dJ9_abs_0f7a4_10 : decode cJ9_abs_0f7a4 10 = .ok (.ireturn, 1) := by decide +kernel
theorem dJ9_max_7cf53_0 : decode cJ9_max_7cf53 0 = .ok (.iload_n 0, 1) := by decide +kernel
theorem dJ9_max_7cf53_1 : decode cJ9_max_7cf53 1 = .ok (.iload_n 1, 1) := by decide +kernel
theorem dJ9_max_7cf53_2 : decode cJ9_max_7cf53 2 = .ok (.if_icmp .lt 7, 3) := by decide +kernel
theorem dJ9_max_7cf53_5 : decode cJ9_max_7cf53 5 = .ok (.iload_n 0, 1) := by decide +kernel
theorem dJ9_max_7cf53_6 : decode cJ9_max_7cf53 6 = .ok (.goto 4, 3) := by decide +kernel
theorem dJ9_max_7cf53_9 : decode cJ9_max_7cf53 9 = .ok (.iload_n 1, 1) := by decide +kernel
theorem dJ9_max_7cf53_10 : decode cJ9_max_7cf53 10 = .ok (.ireturn, 1) := by decide +kernel
theorem dJ9_min_7cf53_0 : decode cJ9_min_7cf53 0 = .ok (.iload_n 0, 1) := by decide +kernel
theorem dJ9_min_7cf53_1 : decode cJ9_min_7cf53 1 = .ok (.iload_n 1, 1) := by decide +kernel
theorem dJ9_min_7cf53_2 : decode cJ9_min_7cf53 2 = .ok (.if_icmp .gt 7, 3) := by decide +kernel
theorem dJ9_min_7cf53_5 : decode cJ9_min_7cf53 5 = .ok (.iload_n 0, 1) := by decide +kernel
theorem dJ9_min_7cf53_6 : decode cJ9_min_7cf53 6 = .ok (.goto 4, 3) := by decide +kernel
theorem dJ9_min_7cf53_9 : decode cJ9_min_7cf53 9 = .ok (.iload_n 1, 1) := by decide +kernel
theorem dJ9_min_7cf53_10 : decode cJ9_min_7cf53 10 = .ok (.ireturn, 1) := by decide +kernel
theorem dJ7_fill_53178_0 : decode cJ7_fill_53178 0 = .ok (.iconst 0, 1) := by decide +kernel
theorem dJ7_fill_53178_1 : decode cJ7_fill_53178 1 = .ok (.istore_n 2, 1) := by decide +kernel
theorem dJ7_fill_53178_2 : decode cJ7_fill_53178 2 = .ok (.aload_n 0, 1) := by decide +kernel
theorem dJ7_fill_53178_3 : decode cJ7_fill_53178 3 = .ok (.arraylength, 1) := by decide +kernel
theorem dJ7_fill_53178_4 : decode cJ7_fill_53178 4 = .ok (.istore_n 3, 1) := by decide +kernel
theorem dJ7_fill_53178_5 : decode cJ7_fill_53178 5 = .ok (.iload_n 2, 1) := by decide +kernel
theorem dJ7_fill_53178_6 : decode cJ7_fill_53178 6 = .ok (.iload_n 3, 1) := by decide +kernel
theorem dJ7_fill_53178_7 : decode cJ7_fill_53178 7 = .ok (.if_icmp .ge 13, 3) := by decide +kernel
theorem dJ7_fill_53178_10 : decode cJ7_fill_53178 10 = .ok (.aload_n 0, 1) := by decide +kernel
theorem dJ7_fill_53178_11 : decode cJ7_fill_53178 11 = .ok (.iload_n 2, 1) := by decide +kernel
theorem dJ7_fill_53178_12 : decode cJ7_fill_53178 12 = .ok (.iload_n 1, 1) := by decide +kernel
theorem dJ7_fill_53178_13 : decode cJ7_fill_53178 13 = .ok (.iastore, 1) := by decide +kernel
theorem dJ7_fill_53178_14 : decode cJ7_fill_53178 14 = .ok (.iinc 2 1, 3) := by decide +kernel
theorem dJ7_fill_53178_17 : decode cJ7_fill_53178 17 = .ok (.goto (-12), 3) := by decide +kernel
theorem dJ7_fill_53178_20 : decode cJ7_fill_53178 20 = .ok (.return_, 1) := by decide +kernel
theorem dL_law_0 : decode cL_law 0 = .ok (.new 7, 3) := by decide +kernel
theorem dL_law_3 : decode cL_law 3 = .ok (.dup, 1) := by decide +kernel
theorem dL_law_4 : decode cL_law 4 = .ok (.invokespecial 9, 3) := by decide +kernel
theorem dL_law_7 : decode cL_law 7 = .ok (.astore_n 1, 1) := by decide +kernel
theorem dL_law_8 : decode cL_law 8 = .ok (.new 10, 3) := by decide +kernel
theorem dL_law_11 : decode cL_law 11 = .ok (.dup, 1) := by decide +kernel
theorem dL_law_12 : decode cL_law 12 = .ok (.invokespecial 12, 3) := by decide +kernel
theorem dL_law_15 : decode cL_law 15 = .ok (.astore_n 2, 1) := by decide +kernel
theorem dL_law_16 : decode cL_law 16 = .ok (.iconst 0, 1) := by decide +kernel
theorem dL_law_17 : decode cL_law 17 = .ok (.istore_n 3, 1) := by decide +kernel
theorem dL_law_18 : decode cL_law 18 = .ok (.iload_n 3, 1) := by decide +kernel
theorem dL_law_19 : decode cL_law 19 = .ok (.aload_n 0, 1) := by decide +kernel
theorem dL_law_20 : decode cL_law 20 = .ok (.arraylength, 1) := by decide +kernel
theorem dL_law_21 : decode cL_law 21 = .ok (.iconst 4, 1) := by decide +kernel
theorem dL_law_22 : decode cL_law 22 = .ok (.isub, 1) := by decide +kernel
theorem dL_law_23 : decode cL_law 23 = .ok (.if_icmp .gt 672, 3) := by decide +kernel
theorem dL_law_26 : decode cL_law 26 = .ok (.aload_n 0, 1) := by decide +kernel
theorem dL_law_27 : decode cL_law 27 = .ok (.iload_n 3, 1) := by decide +kernel
theorem dL_law_28 : decode cL_law 28 = .ok (.iaload, 1) := by decide +kernel
theorem dL_law_29 : decode cL_law 29 = .ok (.bipush 31, 2) := by decide +kernel
theorem dL_law_31 : decode cL_law 31 = .ok (.iand, 1) := by decide +kernel
theorem dL_law_32 : decode cL_law 32 = .ok (.tableswitch 657 0 22 #[108, 131, 154, 197, 220, 253, 276, 299, 332, 345, 378, 401, 424, 447, 480, 503, 516, 549, 572, 585, 608, 621, 644], 108) := by decide +kernel
theorem dL_law_140 : decode cL_law 140 = .ok (.aload_n 1, 1) := by decide +kernel
theorem dL_law_141 : decode cL_law 141 = .ok (.aload_n 0, 1) := by decide +kernel
theorem dL_law_142 : decode cL_law 142 = .ok (.iload_n 3, 1) := by decide +kernel
theorem dL_law_143 : decode cL_law 143 = .ok (.iconst 1, 1) := by decide +kernel
theorem dL_law_144 : decode cL_law 144 = .ok (.iadd, 1) := by decide +kernel
theorem dL_law_145 : decode cL_law 145 = .ok (.iaload, 1) := by decide +kernel
theorem dL_law_146 : decode cL_law 146 = .ok (.invokevirtual 13, 3) := by decide +kernel
theorem dL_law_149 : decode cL_law 149 = .ok (.aload_n 2, 1) := by decide +kernel
theorem dL_law_150 : decode cL_law 150 = .ok (.aload_n 0, 1) := by decide +kernel
theorem dL_law_151 : decode cL_law 151 = .ok (.iload_n 3, 1) := by decide +kernel
theorem dL_law_152 : decode cL_law 152 = .ok (.iconst 1, 1) := by decide +kernel
theorem dL_law_153 : decode cL_law 153 = .ok (.iadd, 1) := by decide +kernel
theorem dL_law_154 : decode cL_law 154 = .ok (.iaload, 1) := by decide +kernel
theorem dL_law_155 : decode cL_law 155 = .ok (.invokevirtual 17, 3) := by decide +kernel
theorem dL_law_158 : decode cL_law 158 = .ok (.if_icmp .eq 531, 3) := by decide +kernel
theorem dL_law_161 : decode cL_law 161 = .ok (.iconst 0, 1) := by decide +kernel
theorem dL_law_162 : decode cL_law 162 = .ok (.ireturn, 1) := by decide +kernel
theorem dL_law_163 : decode cL_law 163 = .ok (.aload_n 1, 1) := by decide +kernel
theorem dL_law_164 : decode cL_law 164 = .ok (.aload_n 0, 1) := by decide +kernel
theorem dL_law_165 : decode cL_law 165 = .ok (.iload_n 3, 1) := by decide +kernel
theorem dL_law_166 : decode cL_law 166 = .ok (.iconst 1, 1) := by decide +kernel
theorem dL_law_167 : decode cL_law 167 = .ok (.iadd, 1) := by decide +kernel
theorem dL_law_168 : decode cL_law 168 = .ok (.iaload, 1) := by decide +kernel
theorem dL_law_169 : decode cL_law 169 = .ok (.invokevirtual 18, 3) := by decide +kernel
theorem dL_law_172 : decode cL_law 172 = .ok (.aload_n 2, 1) := by decide +kernel
theorem dL_law_173 : decode cL_law 173 = .ok (.aload_n 0, 1) := by decide +kernel
theorem dL_law_174 : decode cL_law 174 = .ok (.iload_n 3, 1) := by decide +kernel
theorem dL_law_175 : decode cL_law 175 = .ok (.iconst 1, 1) := by decide +kernel
theorem dL_law_176 : decode cL_law 176 = .ok (.iadd, 1) := by decide +kernel
theorem dL_law_177 : decode cL_law 177 = .ok (.iaload, 1) := by decide +kernel
theorem dL_law_178 : decode cL_law 178 = .ok (.invokevirtual 21, 3) := by decide +kernel
theorem dL_law_181 : decode cL_law 181 = .ok (.if_icmp .eq 508, 3) := by decide +kernel
theorem dL_law_184 : decode cL_law 184 = .ok (.iconst 0, 1) := by decide +kernel
theorem dL_law_185 : decode cL_law 185 = .ok (.ireturn, 1) := by decide +kernel
theorem dL_law_186 : decode cL_law 186 = .ok (.aload_n 1, 1) := by decide +kernel
theorem dL_law_187 : decode cL_law 187 = .ok (.aload_n 0, 1) := by decide +kernel
theorem dL_law_188 : decode cL_law 188 = .ok (.iload_n 3, 1) := by decide +kernel
theorem dL_law_189 : decode cL_law 189 = .ok (.iconst 1, 1) := by decide +kernel
theorem dL_law_190 : decode cL_law 190 = .ok (.iadd, 1) := by decide +kernel
theorem dL_law_191 : decode cL_law 191 = .ok (.iaload, 1) := by decide +kernel
theorem dL_law_192 : decode cL_law 192 = .ok (.aload_n 0, 1) := by decide +kernel
theorem dL_law_193 : decode cL_law 193 = .ok (.iload_n 3, 1) := by decide +kernel
theorem dL_law_194 : decode cL_law 194 = .ok (.iconst 2, 1) := by decide +kernel
theorem dL_law_195 : decode cL_law 195 = .ok (.iadd, 1) := by decide +kernel
theorem dL_law_196 : decode cL_law 196 = .ok (.iaload, 1) := by decide +kernel
theorem dL_law_197 : decode cL_law 197 = .ok (.aload_n 0, 1) := by decide +kernel
theorem dL_law_198 : decode cL_law 198 = .ok (.iload_n 3, 1) := by decide +kernel
theorem dL_law_199 : decode cL_law 199 = .ok (.iconst 3, 1) := by decide +kernel
theorem dL_law_200 : decode cL_law 200 = .ok (.iadd, 1) := by decide +kernel
theorem dL_law_201 : decode cL_law 201 = .ok (.iaload, 1) := by decide +kernel
theorem dL_law_202 : decode cL_law 202 = .ok (.invokevirtual 22, 3) := by decide +kernel
theorem dL_law_205 : decode cL_law 205 = .ok (.aload_n 2, 1) := by decide +kernel
theorem dL_law_206 : decode cL_law 206 = .ok (.aload_n 0, 1) := by decide +kernel
theorem dL_law_207 : decode cL_law 207 = .ok (.iload_n 3, 1) := by decide +kernel
theorem dL_law_208 : decode cL_law 208 = .ok (.iconst 1, 1) := by decide +kernel
theorem dL_law_209 : decode cL_law 209 = .ok (.iadd, 1) := by decide +kernel
theorem dL_law_210 : decode cL_law 210 = .ok (.iaload, 1) := by decide +kernel
theorem dL_law_211 : decode cL_law 211 = .ok (.aload_n 0, 1) := by decide +kernel
theorem dL_law_212 : decode cL_law 212 = .ok (.iload_n 3, 1) := by decide +kernel
theorem dL_law_213 : decode cL_law 213 = .ok (.iconst 2, 1) := by decide +kernel
theorem dL_law_214 : decode cL_law 214 = .ok (.iadd, 1) := by decide +kernel
theorem dL_law_215 : decode cL_law 215 = .ok (.iaload, 1) := by decide +kernel
theorem dL_law_216 : decode cL_law 216 = .ok (.aload_n 0, 1) := by decide +kernel
theorem dL_law_217 : decode cL_law 217 = .ok (.iload_n 3, 1) := by decide +kernel
theorem dL_law_218 : decode cL_law 218 = .ok (.iconst 3, 1) := by decide +kernel
theorem dL_law_219 : decode cL_law 219 = .ok (.iadd, 1) := by decide +kernel
theorem dL_law_220 : decode cL_law 220 = .ok (.iaload, 1) := by decide +kernel
theorem dL_law_221 : decode cL_law 221 = .ok (.invokevirtual 26, 3) := by decide +kernel
theorem dL_law_224 : decode cL_law 224 = .ok (.if_icmp .eq 465, 3) := by decide +kernel
theorem dL_law_227 : decode cL_law 227 = .ok (.iconst 0, 1) := by decide +kernel
theorem dL_law_228 : decode cL_law 228 = .ok (.ireturn, 1) := by decide +kernel
theorem dL_law_229 : decode cL_law 229 = .ok (.aload_n 1, 1) := by decide +kernel
theorem dL_law_230 : decode cL_law 230 = .ok (.aload_n 0, 1) := by decide +kernel
theorem dL_law_231 : decode cL_law 231 = .ok (.iload_n 3, 1) := by decide +kernel
theorem dL_law_232 : decode cL_law 232 = .ok (.iconst 1, 1) := by decide +kernel
theorem dL_law_233 : decode cL_law 233 = .ok (.iadd, 1) := by decide +kernel
theorem dL_law_234 : decode cL_law 234 = .ok (.iaload, 1) := by decide +kernel
theorem dL_law_235 : decode cL_law 235 = .ok (.invokevirtual 27, 3) := by decide +kernel
theorem dL_law_238 : decode cL_law 238 = .ok (.aload_n 2, 1) := by decide +kernel
theorem dL_law_239 : decode cL_law 239 = .ok (.aload_n 0, 1) := by decide +kernel
theorem dL_law_240 : decode cL_law 240 = .ok (.iload_n 3, 1) := by decide +kernel
theorem dL_law_241 : decode cL_law 241 = .ok (.iconst 1, 1) := by decide +kernel
theorem dL_law_242 : decode cL_law 242 = .ok (.iadd, 1) := by decide +kernel
theorem dL_law_243 : decode cL_law 243 = .ok (.iaload, 1) := by decide +kernel
theorem dL_law_244 : decode cL_law 244 = .ok (.invokevirtual 30, 3) := by decide +kernel
theorem dL_law_247 : decode cL_law 247 = .ok (.if_icmp .eq 442, 3) := by decide +kernel
theorem dL_law_250 : decode cL_law 250 = .ok (.iconst 0, 1) := by decide +kernel
theorem dL_law_251 : decode cL_law 251 = .ok (.ireturn, 1) := by decide +kernel
theorem dL_law_252 : decode cL_law 252 = .ok (.aload_n 1, 1) := by decide +kernel
theorem dL_law_253 : decode cL_law 253 = .ok (.aload_n 0, 1) := by decide +kernel
theorem dL_law_254 : decode cL_law 254 = .ok (.iload_n 3, 1) := by decide +kernel
theorem dL_law_255 : decode cL_law 255 = .ok (.iconst 1, 1) := by decide +kernel
theorem dL_law_256 : decode cL_law 256 = .ok (.iadd, 1) := by decide +kernel
theorem dL_law_257 : decode cL_law 257 = .ok (.iaload, 1) := by decide +kernel
theorem dL_law_258 : decode cL_law 258 = .ok (.aload_n 0, 1) := by decide +kernel
theorem dL_law_259 : decode cL_law 259 = .ok (.iload_n 3, 1) := by decide +kernel
theorem dL_law_260 : decode cL_law 260 = .ok (.iconst 2, 1) := by decide +kernel
theorem dL_law_261 : decode cL_law 261 = .ok (.iadd, 1) := by decide +kernel
theorem dL_law_262 : decode cL_law 262 = .ok (.iaload, 1) := by decide +kernel
theorem dL_law_263 : decode cL_law 263 = .ok (.invokevirtual 31, 3) := by decide +kernel
theorem dL_law_266 : decode cL_law 266 = .ok (.aload_n 2, 1) := by decide +kernel
theorem dL_law_267 : decode cL_law 267 = .ok (.aload_n 0, 1) := by decide +kernel
theorem dL_law_268 : decode cL_law 268 = .ok (.iload_n 3, 1) := by decide +kernel
theorem dL_law_269 : decode cL_law 269 = .ok (.iconst 1, 1) := by decide +kernel
theorem dL_law_270 : decode cL_law 270 = .ok (.iadd, 1) := by decide +kernel
theorem dL_law_271 : decode cL_law 271 = .ok (.iaload, 1) := by decide +kernel
theorem dL_law_272 : decode cL_law 272 = .ok (.aload_n 0, 1) := by decide +kernel
theorem dL_law_273 : decode cL_law 273 = .ok (.iload_n 3, 1) := by decide +kernel
theorem dL_law_274 : decode cL_law 274 = .ok (.iconst 2, 1) := by decide +kernel
theorem dL_law_275 : decode cL_law 275 = .ok (.iadd, 1) := by decide +kernel
theorem dL_law_276 : decode cL_law 276 = .ok (.iaload, 1) := by decide +kernel
theorem dL_law_277 : decode cL_law 277 = .ok (.invokevirtual 35, 3) := by decide +kernel
theorem dL_law_280 : decode cL_law 280 = .ok (.if_icmp .eq 409, 3) := by decide +kernel
theorem dL_law_283 : decode cL_law 283 = .ok (.iconst 0, 1) := by decide +kernel
theorem dL_law_284 : decode cL_law 284 = .ok (.ireturn, 1) := by decide +kernel
theorem dL_law_285 : decode cL_law 285 = .ok (.aload_n 1, 1) := by decide +kernel
theorem dL_law_286 : decode cL_law 286 = .ok (.aload_n 0, 1) := by decide +kernel
theorem dL_law_287 : decode cL_law 287 = .ok (.iload_n 3, 1) := by decide +kernel
theorem dL_law_288 : decode cL_law 288 = .ok (.iconst 1, 1) := by decide +kernel
theorem dL_law_289 : decode cL_law 289 = .ok (.iadd, 1) := by decide +kernel
theorem dL_law_290 : decode cL_law 290 = .ok (.iaload, 1) := by decide +kernel
theorem dL_law_291 : decode cL_law 291 = .ok (.invokevirtual 36, 3) := by decide +kernel
theorem dL_law_294 : decode cL_law 294 = .ok (.aload_n 2, 1) := by decide +kernel
theorem dL_law_295 : decode cL_law 295 = .ok (.aload_n 0, 1) := by decide +kernel
theorem dL_law_296 : decode cL_law 296 = .ok (.iload_n 3, 1) := by decide +kernel
theorem dL_law_297 : decode cL_law 297 = .ok (.iconst 1, 1) := by decide +kernel
theorem dL_law_298 : decode cL_law 298 = .ok (.iadd, 1) := by decide +kernel
theorem dL_law_299 : decode cL_law 299 = .ok (.iaload, 1) := by decide +kernel
theorem dL_law_300 : decode cL_law 300 = .ok (.invokevirtual 39, 3) := by decide +kernel
theorem dL_law_303 : decode cL_law 303 = .ok (.if_icmp .eq 386, 3) := by decide +kernel
theorem dL_law_306 : decode cL_law 306 = .ok (.iconst 0, 1) := by decide +kernel
theorem dL_law_307 : decode cL_law 307 = .ok (.ireturn, 1) := by decide +kernel
theorem dL_law_308 : decode cL_law 308 = .ok (.aload_n 1, 1) := by decide +kernel
theorem dL_law_309 : decode cL_law 309 = .ok (.aload_n 0, 1) := by decide +kernel
theorem dL_law_310 : decode cL_law 310 = .ok (.iload_n 3, 1) := by decide +kernel
theorem dL_law_311 : decode cL_law 311 = .ok (.iconst 1, 1) := by decide +kernel
theorem dL_law_312 : decode cL_law 312 = .ok (.iadd, 1) := by decide +kernel
theorem dL_law_313 : decode cL_law 313 = .ok (.iaload, 1) := by decide +kernel
theorem dL_law_314 : decode cL_law 314 = .ok (.invokevirtual 40, 3) := by decide +kernel
theorem dL_law_317 : decode cL_law 317 = .ok (.aload_n 2, 1) := by decide +kernel
theorem dL_law_318 : decode cL_law 318 = .ok (.aload_n 0, 1) := by decide +kernel
theorem dL_law_319 : decode cL_law 319 = .ok (.iload_n 3, 1) := by decide +kernel
theorem dL_law_320 : decode cL_law 320 = .ok (.iconst 1, 1) := by decide +kernel
theorem dL_law_321 : decode cL_law 321 = .ok (.iadd, 1) := by decide +kernel
theorem dL_law_322 : decode cL_law 322 = .ok (.iaload, 1) := by decide +kernel
theorem dL_law_323 : decode cL_law 323 = .ok (.invokevirtual 43, 3) := by decide +kernel
theorem dL_law_326 : decode cL_law 326 = .ok (.if_icmp .eq 363, 3) := by decide +kernel
theorem dL_law_329 : decode cL_law 329 = .ok (.iconst 0, 1) := by decide +kernel
theorem dL_law_330 : decode cL_law 330 = .ok (.ireturn, 1) := by decide +kernel
theorem dL_law_331 : decode cL_law 331 = .ok (.aload_n 1, 1) := by decide +kernel
theorem dL_law_332 : decode cL_law 332 = .ok (.aload_n 0, 1) := by decide +kernel
theorem dL_law_333 : decode cL_law 333 = .ok (.iload_n 3, 1) := by decide +kernel
theorem dL_law_334 : decode cL_law 334 = .ok (.iconst 1, 1) := by decide +kernel
theorem dL_law_335 : decode cL_law 335 = .ok (.iadd, 1) := by decide +kernel
theorem dL_law_336 : decode cL_law 336 = .ok (.iaload, 1) := by decide +kernel
theorem dL_law_337 : decode cL_law 337 = .ok (.aload_n 0, 1) := by decide +kernel
theorem dL_law_338 : decode cL_law 338 = .ok (.iload_n 3, 1) := by decide +kernel
theorem dL_law_339 : decode cL_law 339 = .ok (.iconst 2, 1) := by decide +kernel
theorem dL_law_340 : decode cL_law 340 = .ok (.iadd, 1) := by decide +kernel
theorem dL_law_341 : decode cL_law 341 = .ok (.iaload, 1) := by decide +kernel
theorem dL_law_342 : decode cL_law 342 = .ok (.invokevirtual 44, 3) := by decide +kernel
theorem dL_law_345 : decode cL_law 345 = .ok (.aload_n 2, 1) := by decide +kernel
theorem dL_law_346 : decode cL_law 346 = .ok (.aload_n 0, 1) := by decide +kernel
theorem dL_law_347 : decode cL_law 347 = .ok (.iload_n 3, 1) := by decide +kernel
theorem dL_law_348 : decode cL_law 348 = .ok (.iconst 1, 1) := by decide +kernel
theorem dL_law_349 : decode cL_law 349 = .ok (.iadd, 1) := by decide +kernel
theorem dL_law_350 : decode cL_law 350 = .ok (.iaload, 1) := by decide +kernel
theorem dL_law_351 : decode cL_law 351 = .ok (.aload_n 0, 1) := by decide +kernel
theorem dL_law_352 : decode cL_law 352 = .ok (.iload_n 3, 1) := by decide +kernel
theorem dL_law_353 : decode cL_law 353 = .ok (.iconst 2, 1) := by decide +kernel
theorem dL_law_354 : decode cL_law 354 = .ok (.iadd, 1) := by decide +kernel
theorem dL_law_355 : decode cL_law 355 = .ok (.iaload, 1) := by decide +kernel
theorem dL_law_356 : decode cL_law 356 = .ok (.invokevirtual 47, 3) := by decide +kernel
theorem dL_law_359 : decode cL_law 359 = .ok (.if_icmp .eq 330, 3) := by decide +kernel
theorem dL_law_362 : decode cL_law 362 = .ok (.iconst 0, 1) := by decide +kernel
theorem dL_law_363 : decode cL_law 363 = .ok (.ireturn, 1) := by decide +kernel
theorem dL_law_364 : decode cL_law 364 = .ok (.aload_n 1, 1) := by decide +kernel
theorem dL_law_365 : decode cL_law 365 = .ok (.invokevirtual 48, 3) := by decide +kernel
theorem dL_law_368 : decode cL_law 368 = .ok (.aload_n 2, 1) := by decide +kernel
theorem dL_law_369 : decode cL_law 369 = .ok (.invokevirtual 52, 3) := by decide +kernel
theorem dL_law_372 : decode cL_law 372 = .ok (.if_icmp .eq 317, 3) := by decide +kernel
theorem dL_law_375 : decode cL_law 375 = .ok (.iconst 0, 1) := by decide +kernel
theorem dL_law_376 : decode cL_law 376 = .ok (.ireturn, 1) := by decide +kernel
theorem dL_law_377 : decode cL_law 377 = .ok (.aload_n 1, 1) := by decide +kernel
theorem dL_law_378 : decode cL_law 378 = .ok (.aload_n 0, 1) := by decide +kernel
theorem dL_law_379 : decode cL_law 379 = .ok (.iload_n 3, 1) := by decide +kernel
theorem dL_law_380 : decode cL_law 380 = .ok (.iconst 1, 1) := by decide +kernel
theorem dL_law_381 : decode cL_law 381 = .ok (.iadd, 1) := by decide +kernel
theorem dL_law_382 : decode cL_law 382 = .ok (.iaload, 1) := by decide +kernel
theorem dL_law_383 : decode cL_law 383 = .ok (.aload_n 0, 1) := by decide +kernel
theorem dL_law_384 : decode cL_law 384 = .ok (.iload_n 3, 1) := by decide +kernel
theorem dL_law_385 : decode cL_law 385 = .ok (.iconst 2, 1) := by decide +kernel
theorem dL_law_386 : decode cL_law 386 = .ok (.iadd, 1) := by decide +kernel
theorem dL_law_387 : decode cL_law 387 = .ok (.iaload, 1) := by decide +kernel
theorem dL_law_388 : decode cL_law 388 = .ok (.invokevirtual 53, 3) := by decide +kernel
theorem dL_law_391 : decode cL_law 391 = .ok (.aload_n 2, 1) := by decide +kernel
theorem dL_law_392 : decode cL_law 392 = .ok (.aload_n 0, 1) := by decide +kernel
theorem dL_law_393 : decode cL_law 393 = .ok (.iload_n 3, 1) := by decide +kernel
theorem dL_law_394 : decode cL_law 394 = .ok (.iconst 1, 1) := by decide +kernel
theorem dL_law_395 : decode cL_law 395 = .ok (.iadd, 1) := by decide +kernel
theorem dL_law_396 : decode cL_law 396 = .ok (.iaload, 1) := by decide +kernel
theorem dL_law_397 : decode cL_law 397 = .ok (.aload_n 0, 1) := by decide +kernel
theorem dL_law_398 : decode cL_law 398 = .ok (.iload_n 3, 1) := by decide +kernel
theorem dL_law_399 : decode cL_law 399 = .ok (.iconst 2, 1) := by decide +kernel
theorem dL_law_400 : decode cL_law 400 = .ok (.iadd, 1) := by decide +kernel
theorem dL_law_401 : decode cL_law 401 = .ok (.iaload, 1) := by decide +kernel
theorem dL_law_402 : decode cL_law 402 = .ok (.invokevirtual 56, 3) := by decide +kernel
theorem dL_law_405 : decode cL_law 405 = .ok (.if_icmp .eq 284, 3) := by decide +kernel
theorem dL_law_408 : decode cL_law 408 = .ok (.iconst 0, 1) := by decide +kernel
theorem dL_law_409 : decode cL_law 409 = .ok (.ireturn, 1) := by decide +kernel
theorem dL_law_410 : decode cL_law 410 = .ok (.aload_n 1, 1) := by decide +kernel
theorem dL_law_411 : decode cL_law 411 = .ok (.aload_n 0, 1) := by decide +kernel
theorem dL_law_412 : decode cL_law 412 = .ok (.iload_n 3, 1) := by decide +kernel
theorem dL_law_413 : decode cL_law 413 = .ok (.iconst 1, 1) := by decide +kernel
theorem dL_law_414 : decode cL_law 414 = .ok (.iadd, 1) := by decide +kernel
theorem dL_law_415 : decode cL_law 415 = .ok (.iaload, 1) := by decide +kernel
theorem dL_law_416 : decode cL_law 416 = .ok (.invokevirtual 57, 3) := by decide +kernel
theorem dL_law_419 : decode cL_law 419 = .ok (.aload_n 2, 1) := by decide +kernel
theorem dL_law_420 : decode cL_law 420 = .ok (.aload_n 0, 1) := by decide +kernel
theorem dL_law_421 : decode cL_law 421 = .ok (.iload_n 3, 1) := by decide +kernel
theorem dL_law_422 : decode cL_law 422 = .ok (.iconst 1, 1) := by decide +kernel
theorem dL_law_423 : decode cL_law 423 = .ok (.iadd, 1) := by decide +kernel
theorem dL_law_424 : decode cL_law 424 = .ok (.iaload, 1) := by decide +kernel
theorem dL_law_425 : decode cL_law 425 = .ok (.invokevirtual 60, 3) := by decide +kernel
theorem dL_law_428 : decode cL_law 428 = .ok (.if_icmp .eq 261, 3) := by decide +kernel
theorem dL_law_431 : decode cL_law 431 = .ok (.iconst 0, 1) := by decide +kernel
theorem dL_law_432 : decode cL_law 432 = .ok (.ireturn, 1) := by decide +kernel
theorem dL_law_433 : decode cL_law 433 = .ok (.aload_n 1, 1) := by decide +kernel
theorem dL_law_434 : decode cL_law 434 = .ok (.aload_n 0, 1) := by decide +kernel
theorem dL_law_435 : decode cL_law 435 = .ok (.iload_n 3, 1) := by decide +kernel
theorem dL_law_436 : decode cL_law 436 = .ok (.iconst 1, 1) := by decide +kernel
theorem dL_law_437 : decode cL_law 437 = .ok (.iadd, 1) := by decide +kernel
theorem dL_law_438 : decode cL_law 438 = .ok (.iaload, 1) := by decide +kernel
theorem dL_law_439 : decode cL_law 439 = .ok (.invokevirtual 61, 3) := by decide +kernel
theorem dL_law_442 : decode cL_law 442 = .ok (.aload_n 2, 1) := by decide +kernel
theorem dL_law_443 : decode cL_law 443 = .ok (.aload_n 0, 1) := by decide +kernel
theorem dL_law_444 : decode cL_law 444 = .ok (.iload_n 3, 1) := by decide +kernel
theorem dL_law_445 : decode cL_law 445 = .ok (.iconst 1, 1) := by decide +kernel
theorem dL_law_446 : decode cL_law 446 = .ok (.iadd, 1) := by decide +kernel
theorem dL_law_447 : decode cL_law 447 = .ok (.iaload, 1) := by decide +kernel
theorem dL_law_448 : decode cL_law 448 = .ok (.invokevirtual 64, 3) := by decide +kernel
theorem dL_law_451 : decode cL_law 451 = .ok (.if_icmp .eq 238, 3) := by decide +kernel
theorem dL_law_454 : decode cL_law 454 = .ok (.iconst 0, 1) := by decide +kernel
theorem dL_law_455 : decode cL_law 455 = .ok (.ireturn, 1) := by decide +kernel
theorem dL_law_456 : decode cL_law 456 = .ok (.aload_n 1, 1) := by decide +kernel
theorem dL_law_457 : decode cL_law 457 = .ok (.aload_n 0, 1) := by decide +kernel
theorem dL_law_458 : decode cL_law 458 = .ok (.iload_n 3, 1) := by decide +kernel
theorem dL_law_459 : decode cL_law 459 = .ok (.iconst 1, 1) := by decide +kernel
theorem dL_law_460 : decode cL_law 460 = .ok (.iadd, 1) := by decide +kernel
theorem dL_law_461 : decode cL_law 461 = .ok (.iaload, 1) := by decide +kernel
theorem dL_law_462 : decode cL_law 462 = .ok (.invokevirtual 65, 3) := by decide +kernel
theorem dL_law_465 : decode cL_law 465 = .ok (.aload_n 2, 1) := by decide +kernel
theorem dL_law_466 : decode cL_law 466 = .ok (.aload_n 0, 1) := by decide +kernel
theorem dL_law_467 : decode cL_law 467 = .ok (.iload_n 3, 1) := by decide +kernel
theorem dL_law_468 : decode cL_law 468 = .ok (.iconst 1, 1) := by decide +kernel
theorem dL_law_469 : decode cL_law 469 = .ok (.iadd, 1) := by decide +kernel
theorem dL_law_470 : decode cL_law 470 = .ok (.iaload, 1) := by decide +kernel
theorem dL_law_471 : decode cL_law 471 = .ok (.invokevirtual 68, 3) := by decide +kernel
theorem dL_law_474 : decode cL_law 474 = .ok (.if_icmp .eq 215, 3) := by decide +kernel
theorem dL_law_477 : decode cL_law 477 = .ok (.iconst 0, 1) := by decide +kernel
theorem dL_law_478 : decode cL_law 478 = .ok (.ireturn, 1) := by decide +kernel
theorem dL_law_479 : decode cL_law 479 = .ok (.aload_n 1, 1) := by decide +kernel
theorem dL_law_480 : decode cL_law 480 = .ok (.aload_n 0, 1) := by decide +kernel
theorem dL_law_481 : decode cL_law 481 = .ok (.iload_n 3, 1) := by decide +kernel
theorem dL_law_482 : decode cL_law 482 = .ok (.iconst 1, 1) := by decide +kernel
theorem dL_law_483 : decode cL_law 483 = .ok (.iadd, 1) := by decide +kernel
theorem dL_law_484 : decode cL_law 484 = .ok (.iaload, 1) := by decide +kernel
theorem dL_law_485 : decode cL_law 485 = .ok (.aload_n 0, 1) := by decide +kernel
theorem dL_law_486 : decode cL_law 486 = .ok (.iload_n 3, 1) := by decide +kernel
theorem dL_law_487 : decode cL_law 487 = .ok (.iconst 2, 1) := by decide +kernel
theorem dL_law_488 : decode cL_law 488 = .ok (.iadd, 1) := by decide +kernel
theorem dL_law_489 : decode cL_law 489 = .ok (.iaload, 1) := by decide +kernel
theorem dL_law_490 : decode cL_law 490 = .ok (.invokevirtual 69, 3) := by decide +kernel
theorem dL_law_493 : decode cL_law 493 = .ok (.aload_n 2, 1) := by decide +kernel
theorem dL_law_494 : decode cL_law 494 = .ok (.aload_n 0, 1) := by decide +kernel
theorem dL_law_495 : decode cL_law 495 = .ok (.iload_n 3, 1) := by decide +kernel
theorem dL_law_496 : decode cL_law 496 = .ok (.iconst 1, 1) := by decide +kernel
theorem dL_law_497 : decode cL_law 497 = .ok (.iadd, 1) := by decide +kernel
theorem dL_law_498 : decode cL_law 498 = .ok (.iaload, 1) := by decide +kernel
theorem dL_law_499 : decode cL_law 499 = .ok (.aload_n 0, 1) := by decide +kernel
theorem dL_law_500 : decode cL_law 500 = .ok (.iload_n 3, 1) := by decide +kernel
theorem dL_law_501 : decode cL_law 501 = .ok (.iconst 2, 1) := by decide +kernel
theorem dL_law_502 : decode cL_law 502 = .ok (.iadd, 1) := by decide +kernel
theorem dL_law_503 : decode cL_law 503 = .ok (.iaload, 1) := by decide +kernel
theorem dL_law_504 : decode cL_law 504 = .ok (.invokevirtual 72, 3) := by decide +kernel
theorem dL_law_507 : decode cL_law 507 = .ok (.if_icmp .eq 182, 3) := by decide +kernel
theorem dL_law_510 : decode cL_law 510 = .ok (.iconst 0, 1) := by decide +kernel
theorem dL_law_511 : decode cL_law 511 = .ok (.ireturn, 1) := by decide +kernel
theorem dL_law_512 : decode cL_law 512 = .ok (.aload_n 1, 1) := by decide +kernel
theorem dL_law_513 : decode cL_law 513 = .ok (.aload_n 0, 1) := by decide +kernel
theorem dL_law_514 : decode cL_law 514 = .ok (.iload_n 3, 1) := by decide +kernel
theorem dL_law_515 : decode cL_law 515 = .ok (.iconst 1, 1) := by decide +kernel
theorem dL_law_516 : decode cL_law 516 = .ok (.iadd, 1) := by decide +kernel
theorem dL_law_517 : decode cL_law 517 = .ok (.iaload, 1) := by decide +kernel
theorem dL_law_518 : decode cL_law 518 = .ok (.invokevirtual 73, 3) := by decide +kernel
theorem dL_law_521 : decode cL_law 521 = .ok (.aload_n 2, 1) := by decide +kernel
theorem dL_law_522 : decode cL_law 522 = .ok (.aload_n 0, 1) := by decide +kernel
theorem dL_law_523 : decode cL_law 523 = .ok (.iload_n 3, 1) := by decide +kernel
theorem dL_law_524 : decode cL_law 524 = .ok (.iconst 1, 1) := by decide +kernel
theorem dL_law_525 : decode cL_law 525 = .ok (.iadd, 1) := by decide +kernel
theorem dL_law_526 : decode cL_law 526 = .ok (.iaload, 1) := by decide +kernel
theorem dL_law_527 : decode cL_law 527 = .ok (.invokevirtual 76, 3) := by decide +kernel
theorem dL_law_530 : decode cL_law 530 = .ok (.if_icmp .eq 159, 3) := by decide +kernel
theorem dL_law_533 : decode cL_law 533 = .ok (.iconst 0, 1) := by decide +kernel
theorem dL_law_534 : decode cL_law 534 = .ok (.ireturn, 1) := by decide +kernel
theorem dL_law_535 : decode cL_law 535 = .ok (.aload_n 1, 1) := by decide +kernel
theorem dL_law_536 : decode cL_law 536 = .ok (.invokevirtual 77, 3) := by decide +kernel
theorem dL_law_539 : decode cL_law 539 = .ok (.aload_n 2, 1) := by decide +kernel
theorem dL_law_540 : decode cL_law 540 = .ok (.invokevirtual 80, 3) := by decide +kernel
theorem dL_law_543 : decode cL_law 543 = .ok (.if_icmp .eq 146, 3) := by decide +kernel
theorem dL_law_546 : decode cL_law 546 = .ok (.iconst 0, 1) := by decide +kernel
theorem dL_law_547 : decode cL_law 547 = .ok (.ireturn, 1) := by decide +kernel
theorem dL_law_548 : decode cL_law 548 = .ok (.aload_n 1, 1) := by decide +kernel
theorem dL_law_549 : decode cL_law 549 = .ok (.aload_n 0, 1) := by decide +kernel
theorem dL_law_550 : decode cL_law 550 = .ok (.iload_n 3, 1) := by decide +kernel
theorem dL_law_551 : decode cL_law 551 = .ok (.iconst 1, 1) := by decide +kernel
theorem dL_law_552 : decode cL_law 552 = .ok (.iadd, 1) := by decide +kernel
theorem dL_law_553 : decode cL_law 553 = .ok (.iaload, 1) := by decide +kernel
theorem dL_law_554 : decode cL_law 554 = .ok (.aload_n 0, 1) := by decide +kernel
theorem dL_law_555 : decode cL_law 555 = .ok (.iload_n 3, 1) := by decide +kernel
theorem dL_law_556 : decode cL_law 556 = .ok (.iconst 2, 1) := by decide +kernel
theorem dL_law_557 : decode cL_law 557 = .ok (.iadd, 1) := by decide +kernel
theorem dL_law_558 : decode cL_law 558 = .ok (.iaload, 1) := by decide +kernel
theorem dL_law_559 : decode cL_law 559 = .ok (.invokevirtual 81, 3) := by decide +kernel
theorem dL_law_562 : decode cL_law 562 = .ok (.aload_n 2, 1) := by decide +kernel
theorem dL_law_563 : decode cL_law 563 = .ok (.aload_n 0, 1) := by decide +kernel
theorem dL_law_564 : decode cL_law 564 = .ok (.iload_n 3, 1) := by decide +kernel
theorem dL_law_565 : decode cL_law 565 = .ok (.iconst 1, 1) := by decide +kernel
theorem dL_law_566 : decode cL_law 566 = .ok (.iadd, 1) := by decide +kernel
theorem dL_law_567 : decode cL_law 567 = .ok (.iaload, 1) := by decide +kernel
theorem dL_law_568 : decode cL_law 568 = .ok (.aload_n 0, 1) := by decide +kernel
theorem dL_law_569 : decode cL_law 569 = .ok (.iload_n 3, 1) := by decide +kernel
theorem dL_law_570 : decode cL_law 570 = .ok (.iconst 2, 1) := by decide +kernel
theorem dL_law_571 : decode cL_law 571 = .ok (.iadd, 1) := by decide +kernel
theorem dL_law_572 : decode cL_law 572 = .ok (.iaload, 1) := by decide +kernel
theorem dL_law_573 : decode cL_law 573 = .ok (.invokevirtual 84, 3) := by decide +kernel
theorem dL_law_576 : decode cL_law 576 = .ok (.if_icmp .eq 113, 3) := by decide +kernel
theorem dL_law_579 : decode cL_law 579 = .ok (.iconst 0, 1) := by decide +kernel
theorem dL_law_580 : decode cL_law 580 = .ok (.ireturn, 1) := by decide +kernel
theorem dL_law_581 : decode cL_law 581 = .ok (.aload_n 1, 1) := by decide +kernel
theorem dL_law_582 : decode cL_law 582 = .ok (.aload_n 0, 1) := by decide +kernel
theorem dL_law_583 : decode cL_law 583 = .ok (.iload_n 3, 1) := by decide +kernel
theorem dL_law_584 : decode cL_law 584 = .ok (.iconst 1, 1) := by decide +kernel
theorem dL_law_585 : decode cL_law 585 = .ok (.iadd, 1) := by decide +kernel
theorem dL_law_586 : decode cL_law 586 = .ok (.iaload, 1) := by decide +kernel
theorem dL_law_587 : decode cL_law 587 = .ok (.invokevirtual 85, 3) := by decide +kernel
theorem dL_law_590 : decode cL_law 590 = .ok (.aload_n 2, 1) := by decide +kernel
theorem dL_law_591 : decode cL_law 591 = .ok (.aload_n 0, 1) := by decide +kernel
theorem dL_law_592 : decode cL_law 592 = .ok (.iload_n 3, 1) := by decide +kernel
theorem dL_law_593 : decode cL_law 593 = .ok (.iconst 1, 1) := by decide +kernel
theorem dL_law_594 : decode cL_law 594 = .ok (.iadd, 1) := by decide +kernel
theorem dL_law_595 : decode cL_law 595 = .ok (.iaload, 1) := by decide +kernel
theorem dL_law_596 : decode cL_law 596 = .ok (.invokevirtual 88, 3) := by decide +kernel
theorem dL_law_599 : decode cL_law 599 = .ok (.if_icmp .eq 90, 3) := by decide +kernel
theorem dL_law_602 : decode cL_law 602 = .ok (.iconst 0, 1) := by decide +kernel
theorem dL_law_603 : decode cL_law 603 = .ok (.ireturn, 1) := by decide +kernel
theorem dL_law_604 : decode cL_law 604 = .ok (.aload_n 1, 1) := by decide +kernel
theorem dL_law_605 : decode cL_law 605 = .ok (.invokevirtual 89, 3) := by decide +kernel
theorem dL_law_608 : decode cL_law 608 = .ok (.aload_n 2, 1) := by decide +kernel
theorem dL_law_609 : decode cL_law 609 = .ok (.invokevirtual 92, 3) := by decide +kernel
theorem dL_law_612 : decode cL_law 612 = .ok (.if_icmp .eq 77, 3) := by decide +kernel
theorem dL_law_615 : decode cL_law 615 = .ok (.iconst 0, 1) := by decide +kernel
theorem dL_law_616 : decode cL_law 616 = .ok (.ireturn, 1) := by decide +kernel
theorem dL_law_617 : decode cL_law 617 = .ok (.aload_n 1, 1) := by decide +kernel
theorem dL_law_618 : decode cL_law 618 = .ok (.aload_n 0, 1) := by decide +kernel
theorem dL_law_619 : decode cL_law 619 = .ok (.iload_n 3, 1) := by decide +kernel
theorem dL_law_620 : decode cL_law 620 = .ok (.iconst 1, 1) := by decide +kernel
theorem dL_law_621 : decode cL_law 621 = .ok (.iadd, 1) := by decide +kernel
theorem dL_law_622 : decode cL_law 622 = .ok (.iaload, 1) := by decide +kernel
theorem dL_law_623 : decode cL_law 623 = .ok (.invokevirtual 93, 3) := by decide +kernel
theorem dL_law_626 : decode cL_law 626 = .ok (.aload_n 2, 1) := by decide +kernel
theorem dL_law_627 : decode cL_law 627 = .ok (.aload_n 0, 1) := by decide +kernel
theorem dL_law_628 : decode cL_law 628 = .ok (.iload_n 3, 1) := by decide +kernel
theorem dL_law_629 : decode cL_law 629 = .ok (.iconst 1, 1) := by decide +kernel
theorem dL_law_630 : decode cL_law 630 = .ok (.iadd, 1) := by decide +kernel
theorem dL_law_631 : decode cL_law 631 = .ok (.iaload, 1) := by decide +kernel
theorem dL_law_632 : decode cL_law 632 = .ok (.invokevirtual 96, 3) := by decide +kernel
theorem dL_law_635 : decode cL_law 635 = .ok (.if_icmp .eq 54, 3) := by decide +kernel
theorem dL_law_638 : decode cL_law 638 = .ok (.iconst 0, 1) := by decide +kernel
theorem dL_law_639 : decode cL_law 639 = .ok (.ireturn, 1) := by decide +kernel
theorem dL_law_640 : decode cL_law 640 = .ok (.aload_n 1, 1) := by decide +kernel
theorem dL_law_641 : decode cL_law 641 = .ok (.invokevirtual 97, 3) := by decide +kernel
theorem dL_law_644 : decode cL_law 644 = .ok (.aload_n 2, 1) := by decide +kernel
theorem dL_law_645 : decode cL_law 645 = .ok (.invokevirtual 100, 3) := by decide +kernel
theorem dL_law_648 : decode cL_law 648 = .ok (.if_icmp .eq 41, 3) := by decide +kernel
theorem dL_law_651 : decode cL_law 651 = .ok (.iconst 0, 1) := by decide +kernel
theorem dL_law_652 : decode cL_law 652 = .ok (.ireturn, 1) := by decide +kernel
theorem dL_law_653 : decode cL_law 653 = .ok (.aload_n 1, 1) := by decide +kernel
theorem dL_law_654 : decode cL_law 654 = .ok (.aload_n 0, 1) := by decide +kernel
theorem dL_law_655 : decode cL_law 655 = .ok (.iload_n 3, 1) := by decide +kernel
theorem dL_law_656 : decode cL_law 656 = .ok (.iconst 1, 1) := by decide +kernel
theorem dL_law_657 : decode cL_law 657 = .ok (.iadd, 1) := by decide +kernel
theorem dL_law_658 : decode cL_law 658 = .ok (.iaload, 1) := by decide +kernel
theorem dL_law_659 : decode cL_law 659 = .ok (.invokevirtual 101, 3) := by decide +kernel
theorem dL_law_662 : decode cL_law 662 = .ok (.aload_n 2, 1) := by decide +kernel
theorem dL_law_663 : decode cL_law 663 = .ok (.aload_n 0, 1) := by decide +kernel
theorem dL_law_664 : decode cL_law 664 = .ok (.iload_n 3, 1) := by decide +kernel
theorem dL_law_665 : decode cL_law 665 = .ok (.iconst 1, 1) := by decide +kernel
theorem dL_law_666 : decode cL_law 666 = .ok (.iadd, 1) := by decide +kernel
theorem dL_law_667 : decode cL_law 667 = .ok (.iaload, 1) := by decide +kernel
theorem dL_law_668 : decode cL_law 668 = .ok (.invokevirtual 104, 3) := by decide +kernel
theorem dL_law_671 : decode cL_law 671 = .ok (.if_icmp .eq 18, 3) := by decide +kernel
theorem dL_law_674 : decode cL_law 674 = .ok (.iconst 0, 1) := by decide +kernel
theorem dL_law_675 : decode cL_law 675 = .ok (.ireturn, 1) := by decide +kernel
theorem dL_law_676 : decode cL_law 676 = .ok (.aload_n 1, 1) := by decide +kernel
theorem dL_law_677 : decode cL_law 677 = .ok (.invokevirtual 105, 3) := by decide +kernel
theorem dL_law_680 : decode cL_law 680 = .ok (.aload_n 2, 1) := by decide +kernel
theorem dL_law_681 : decode cL_law 681 = .ok (.invokevirtual 108, 3) := by decide +kernel
theorem dL_law_684 : decode cL_law 684 = .ok (.if_icmp .eq 5, 3) := by decide +kernel
theorem dL_law_687 : decode cL_law 687 = .ok (.iconst 0, 1) := by decide +kernel
theorem dL_law_688 : decode cL_law 688 = .ok (.ireturn, 1) := by decide +kernel
theorem dL_law_689 : decode cL_law 689 = .ok (.iinc 3 4, 3) := by decide +kernel
theorem dL_law_692 : decode cL_law 692 = .ok (.goto (-674), 3) := by decide +kernel
theorem dL_law_695 : decode cL_law 695 = .ok (.iconst 1, 1) := by decide +kernel
theorem dL_law_696 : decode cL_law 696 = .ok (.ireturn, 1) := by decide +kernel
