/-! decode rows (printed by TURN) -/
theorem dX0_init_0 : decode cX0_init 0 = .ok (.aload_n 0, 1) := by decide +kernel
theorem dX0_init_1 : decode cX0_init 1 = .ok (.invokespecial 1, 3) := by decide +kernel
theorem dX0_init_4 : decode cX0_init 4 = .ok (.return_, 1) := by decide +kernel
theorem dX1_init_0 : decode cX1_init 0 = .ok (.aload_n 0, 1) := by decide +kernel
theorem dX1_init_1 : decode cX1_init 1 = .ok (.invokespecial 3, 3) := by decide +kernel
theorem dX1_init_4 : decode cX1_init 4 = .ok (.aload_n 0, 1) := by decide +kernel
theorem dX1_init_5 : decode cX1_init 5 = .ok (.iconst 4, 1) := by decide +kernel
theorem dX1_init_6 : decode cX1_init 6 = .ok (.anewarray 9, 3) := by decide +kernel
theorem dX1_init_9 : decode cX1_init 9 = .ok (.putfield 11, 3) := by decide +kernel
theorem dX1_init_12 : decode cX1_init 12 = .ok (.iconst 0, 1) := by decide +kernel
theorem dX1_init_13 : decode cX1_init 13 = .ok (.istore_n 1, 1) := by decide +kernel
theorem dX1_init_14 : decode cX1_init 14 = .ok (.iload_n 1, 1) := by decide +kernel
theorem dX1_init_15 : decode cX1_init 15 = .ok (.iconst 4, 1) := by decide +kernel
theorem dX1_init_16 : decode cX1_init 16 = .ok (.if_icmp .ge 22, 3) := by decide +kernel
theorem dX1_init_19 : decode cX1_init 19 = .ok (.aload_n 0, 1) := by decide +kernel
theorem dX1_init_20 : decode cX1_init 20 = .ok (.getfield 11, 3) := by decide +kernel
theorem dX1_init_23 : decode cX1_init 23 = .ok (.iload_n 1, 1) := by decide +kernel
theorem dX1_init_24 : decode cX1_init 24 = .ok (.new 9, 3) := by decide +kernel
theorem dX1_init_27 : decode cX1_init 27 = .ok (.dup, 1) := by decide +kernel
theorem dX1_init_28 : decode cX1_init 28 = .ok (.invokespecial 17, 3) := by decide +kernel
theorem dX1_init_31 : decode cX1_init 31 = .ok (.aastore, 1) := by decide +kernel
theorem dX1_init_32 : decode cX1_init 32 = .ok (.iinc 1 1, 3) := by decide +kernel
theorem dX1_init_35 : decode cX1_init 35 = .ok (.goto (-21), 3) := by decide +kernel
theorem dX1_init_38 : decode cX1_init 38 = .ok (.return_, 1) := by decide +kernel
theorem dX1_stateAt_0 : decode cX1_stateAt 0 = .ok (.aload_n 0, 1) := by decide +kernel
theorem dX1_stateAt_1 : decode cX1_stateAt 1 = .ok (.getfield 11, 3) := by decide +kernel
theorem dX1_stateAt_4 : decode cX1_stateAt 4 = .ok (.aload_n 0, 1) := by decide +kernel
theorem dX1_stateAt_5 : decode cX1_stateAt 5 = .ok (.getfield 18, 3) := by decide +kernel
theorem dX1_stateAt_8 : decode cX1_stateAt 8 = .ok (.iload_n 1, 1) := by decide +kernel
theorem dX1_stateAt_9 : decode cX1_stateAt 9 = .ok (.iadd, 1) := by decide +kernel
theorem dX1_stateAt_10 : decode cX1_stateAt 10 = .ok (.iconst 4, 1) := by decide +kernel
theorem dX1_stateAt_11 : decode cX1_stateAt 11 = .ok (.invokestatic 22, 3) := by decide +kernel
theorem dX1_stateAt_14 : decode cX1_stateAt 14 = .ok (.aaload, 1) := by decide +kernel
theorem dX1_stateAt_15 : decode cX1_stateAt 15 = .ok (.areturn, 1) := by decide +kernel
theorem dX1_keep_0 : decode cX1_keep 0 = .ok (.aload_n 0, 1) := by decide +kernel
theorem dX1_keep_1 : decode cX1_keep 1 = .ok (.getfield 28, 3) := by decide +kernel
theorem dX1_keep_4 : decode cX1_keep 4 = .ok (.iconst 4, 1) := by decide +kernel
theorem dX1_keep_5 : decode cX1_keep 5 = .ok (.if_icmp .lt 20, 3) := by decide +kernel
theorem dX1_keep_8 : decode cX1_keep 8 = .ok (.aload_n 0, 1) := by decide +kernel
theorem dX1_keep_9 : decode cX1_keep 9 = .ok (.aload_n 0, 1) := by decide +kernel
theorem dX1_keep_10 : decode cX1_keep 10 = .ok (.getfield 18, 3) := by decide +kernel
theorem dX1_keep_13 : decode cX1_keep 13 = .ok (.iconst 1, 1) := by decide +kernel
theorem dX1_keep_14 : decode cX1_keep 14 = .ok (.iadd, 1) := by decide +kernel
theorem dX1_keep_15 : decode cX1_keep 15 = .ok (.iconst 4, 1) := by decide +kernel
theorem dX1_keep_16 : decode cX1_keep 16 = .ok (.irem, 1) := by decide +kernel
theorem dX1_keep_17 : decode cX1_keep 17 = .ok (.putfield 18, 3) := by decide +kernel
theorem dX1_keep_20 : decode cX1_keep 20 = .ok (.aload_n 0, 1) := by decide +kernel
theorem dX1_keep_21 : decode cX1_keep 21 = .ok (.iconst 3, 1) := by decide +kernel
theorem dX1_keep_22 : decode cX1_keep 22 = .ok (.putfield 28, 3) := by decide +kernel
theorem dX1_keep_25 : decode cX1_keep 25 = .ok (.aload_n 0, 1) := by decide +kernel
theorem dX1_keep_26 : decode cX1_keep 26 = .ok (.aload_n 0, 1) := by decide +kernel
theorem dX1_keep_27 : decode cX1_keep 27 = .ok (.getfield 28, 3) := by decide +kernel
theorem dX1_keep_30 : decode cX1_keep 30 = .ok (.invokevirtual 31, 3) := by decide +kernel
theorem dX1_keep_33 : decode cX1_keep 33 = .ok (.astore_n 2, 1) := by decide +kernel
theorem dX1_keep_34 : decode cX1_keep 34 = .ok (.aload_n 2, 1) := by decide +kernel
theorem dX1_keep_35 : decode cX1_keep 35 = .ok (.ifnull 18, 3) := by decide +kernel
theorem dX1_keep_38 : decode cX1_keep 38 = .ok (.aload_n 2, 1) := by decide +kernel
theorem dX1_keep_39 : decode cX1_keep 39 = .ok (.aload_n 1, 1) := by decide +kernel
theorem dX1_keep_40 : decode cX1_keep 40 = .ok (.invokevirtual 35, 3) := by decide +kernel
theorem dX1_keep_43 : decode cX1_keep 43 = .ok (.aload_n 0, 1) := by decide +kernel
theorem dX1_keep_44 : decode cX1_keep 44 = .ok (.dup, 1) := by decide +kernel
theorem dX1_keep_45 : decode cX1_keep 45 = .ok (.getfield 28, 3) := by decide +kernel
theorem dX1_keep_48 : decode cX1_keep 48 = .ok (.iconst 1, 1) := by decide +kernel
theorem dX1_keep_49 : decode cX1_keep 49 = .ok (.iadd, 1) := by decide +kernel
theorem dX1_keep_50 : decode cX1_keep 50 = .ok (.putfield 28, 3) := by decide +kernel
theorem dX1_keep_53 : decode cX1_keep 53 = .ok (.return_, 1) := by decide +kernel
theorem dX1_restoreInto_0 : decode cX1_restoreInto 0 = .ok (.aload_n 0, 1) := by decide +kernel
theorem dX1_restoreInto_1 : decode cX1_restoreInto 1 = .ok (.getfield 28, 3) := by decide +kernel
theorem dX1_restoreInto_4 : decode cX1_restoreInto 4 = .ok (.ifCond .gt 4, 3) := by decide +kernel
theorem dX1_restoreInto_7 : decode cX1_restoreInto 7 = .ok (.return_, 1) := by decide +kernel
theorem dX1_restoreInto_8 : decode cX1_restoreInto 8 = .ok (.aload_n 0, 1) := by decide +kernel
theorem dX1_restoreInto_9 : decode cX1_restoreInto 9 = .ok (.aload_n 0, 1) := by decide +kernel
theorem dX1_restoreInto_10 : decode cX1_restoreInto 10 = .ok (.getfield 28, 3) := by decide +kernel
theorem dX1_restoreInto_13 : decode cX1_restoreInto 13 = .ok (.iconst 1, 1) := by decide +kernel
theorem dX1_restoreInto_14 : decode cX1_restoreInto 14 = .ok (.isub, 1) := by decide +kernel
theorem dX1_restoreInto_15 : decode cX1_restoreInto 15 = .ok (.invokevirtual 31, 3) := by decide +kernel
theorem dX1_restoreInto_18 : decode cX1_restoreInto 18 = .ok (.astore_n 2, 1) := by decide +kernel
theorem dX1_restoreInto_19 : decode cX1_restoreInto 19 = .ok (.aload_n 2, 1) := by decide +kernel
theorem dX1_restoreInto_20 : decode cX1_restoreInto 20 = .ok (.ifnull 18, 3) := by decide +kernel
theorem dX1_restoreInto_23 : decode cX1_restoreInto 23 = .ok (.aload_n 1, 1) := by decide +kernel
theorem dX1_restoreInto_24 : decode cX1_restoreInto 24 = .ok (.aload_n 2, 1) := by decide +kernel
theorem dX1_restoreInto_25 : decode cX1_restoreInto 25 = .ok (.invokevirtual 35, 3) := by decide +kernel
theorem dX1_restoreInto_28 : decode cX1_restoreInto 28 = .ok (.aload_n 0, 1) := by decide +kernel
theorem dX1_restoreInto_29 : decode cX1_restoreInto 29 = .ok (.dup, 1) := by decide +kernel
theorem dX1_restoreInto_30 : decode cX1_restoreInto 30 = .ok (.getfield 28, 3) := by decide +kernel
theorem dX1_restoreInto_33 : decode cX1_restoreInto 33 = .ok (.iconst 1, 1) := by decide +kernel
theorem dX1_restoreInto_34 : decode cX1_restoreInto 34 = .ok (.isub, 1) := by decide +kernel
theorem dX1_restoreInto_35 : decode cX1_restoreInto 35 = .ok (.putfield 28, 3) := by decide +kernel
theorem dX1_restoreInto_38 : decode cX1_restoreInto 38 = .ok (.return_, 1) := by decide +kernel
theorem dX2_init_0 : decode cX2_init 0 = .ok (.aload_n 0, 1) := by decide +kernel
theorem dX2_init_1 : decode cX2_init 1 = .ok (.invokespecial 1, 3) := by decide +kernel
theorem dX2_init_4 : decode cX2_init 4 = .ok (.return_, 1) := by decide +kernel
theorem dX2_add_0 : decode cX2_add 0 = .ok (.iload_n 1, 1) := by decide +kernel
theorem dX2_add_1 : decode cX2_add 1 = .ok (.invokestatic 7, 3) := by decide +kernel
theorem dX2_add_4 : decode cX2_add 4 = .ok (.istore 4, 2) := by decide +kernel
theorem dX2_add_6 : decode cX2_add 6 = .ok (.aload_n 0, 1) := by decide +kernel
theorem dX2_add_7 : decode cX2_add 7 = .ok (.dup, 1) := by decide +kernel
theorem dX2_add_8 : decode cX2_add 8 = .ok (.getfield 13, 3) := by decide +kernel
theorem dX2_add_11 : decode cX2_add 11 = .ok (.iconst 1, 1) := by decide +kernel
theorem dX2_add_12 : decode cX2_add 12 = .ok (.iadd, 1) := by decide +kernel
theorem dX2_add_13 : decode cX2_add 13 = .ok (.putfield 13, 3) := by decide +kernel
theorem dX2_add_16 : decode cX2_add 16 = .ok (.aload_n 0, 1) := by decide +kernel
theorem dX2_add_17 : decode cX2_add 17 = .ok (.dup, 1) := by decide +kernel
theorem dX2_add_18 : decode cX2_add 18 = .ok (.getfield 19, 3) := by decide +kernel
theorem dX2_add_21 : decode cX2_add 21 = .ok (.iload 4, 2) := by decide +kernel
theorem dX2_add_23 : decode cX2_add 23 = .ok (.i2l, 1) := by decide +kernel
theorem dX2_add_24 : decode cX2_add 24 = .ok (.ladd, 1) := by decide +kernel
theorem dX2_add_25 : decode cX2_add 25 = .ok (.putfield 19, 3) := by decide +kernel
theorem dX2_add_28 : decode cX2_add 28 = .ok (.aload_n 0, 1) := by decide +kernel
theorem dX2_add_29 : decode cX2_add 29 = .ok (.aload_n 0, 1) := by decide +kernel
theorem dX2_add_30 : decode cX2_add 30 = .ok (.getfield 23, 3) := by decide +kernel
theorem dX2_add_33 : decode cX2_add 33 = .ok (.iload 4, 2) := by decide +kernel
theorem dX2_add_35 : decode cX2_add 35 = .ok (.invokestatic 26, 3) := by decide +kernel
theorem dX2_add_38 : decode cX2_add 38 = .ok (.putfield 23, 3) := by decide +kernel
theorem dX2_add_41 : decode cX2_add 41 = .ok (.aload_n 0, 1) := by decide +kernel
theorem dX2_add_42 : decode cX2_add 42 = .ok (.dup, 1) := by decide +kernel
theorem dX2_add_43 : decode cX2_add 43 = .ok (.getfield 30, 3) := by decide +kernel
theorem dX2_add_46 : decode cX2_add 46 = .ok (.iload_n 2, 1) := by decide +kernel
theorem dX2_add_47 : decode cX2_add 47 = .ok (.ifCond .eq 7, 3) := by decide +kernel
theorem dX2_add_50 : decode cX2_add 50 = .ok (.iconst 1, 1) := by decide +kernel
theorem dX2_add_51 : decode cX2_add 51 = .ok (.goto 4, 3) := by decide +kernel
theorem dX2_add_54 : decode cX2_add 54 = .ok (.iconst 0, 1) := by decide +kernel
theorem dX2_add_55 : decode cX2_add 55 = .ok (.iadd, 1) := by decide +kernel
theorem dX2_add_56 : decode cX2_add 56 = .ok (.putfield 30, 3) := by decide +kernel
theorem dX2_add_59 : decode cX2_add 59 = .ok (.aload_n 0, 1) := by decide +kernel
theorem dX2_add_60 : decode cX2_add 60 = .ok (.dup, 1) := by decide +kernel
theorem dX2_add_61 : decode cX2_add 61 = .ok (.getfield 33, 3) := by decide +kernel
theorem dX2_add_64 : decode cX2_add 64 = .ok (.iload_n 3, 1) := by decide +kernel
theorem dX2_add_65 : decode cX2_add 65 = .ok (.ifCond .eq 7, 3) := by decide +kernel
theorem dX2_add_68 : decode cX2_add 68 = .ok (.iconst 1, 1) := by decide +kernel
theorem dX2_add_69 : decode cX2_add 69 = .ok (.goto 4, 3) := by decide +kernel
theorem dX2_add_72 : decode cX2_add 72 = .ok (.iconst 0, 1) := by decide +kernel
theorem dX2_add_73 : decode cX2_add 73 = .ok (.iadd, 1) := by decide +kernel
theorem dX2_add_74 : decode cX2_add 74 = .ok (.putfield 33, 3) := by decide +kernel
theorem dX2_add_77 : decode cX2_add 77 = .ok (.return_, 1) := by decide +kernel
theorem dX2_bitsOfMean_0 : decode cX2_bitsOfMean 0 = .ok (.aload_n 0, 1) := by decide +kernel
theorem dX2_bitsOfMean_1 : decode cX2_bitsOfMean 1 = .ok (.getfield 13, 3) := by decide +kernel
theorem dX2_bitsOfMean_4 : decode cX2_bitsOfMean 4 = .ok (.ifCond .gt 5, 3) := by decide +kernel
theorem dX2_bitsOfMean_7 : decode cX2_bitsOfMean 7 = .ok (.iconst 0, 1) := by decide +kernel
theorem dX2_bitsOfMean_8 : decode cX2_bitsOfMean 8 = .ok (.ireturn, 1) := by decide +kernel
theorem dX2_bitsOfMean_9 : decode cX2_bitsOfMean 9 = .ok (.aload_n 0, 1) := by decide +kernel
theorem dX2_bitsOfMean_10 : decode cX2_bitsOfMean 10 = .ok (.getfield 19, 3) := by decide +kernel
theorem dX2_bitsOfMean_13 : decode cX2_bitsOfMean 13 = .ok (.l2f, 1) := by decide +kernel
theorem dX2_bitsOfMean_14 : decode cX2_bitsOfMean 14 = .ok (.aload_n 0, 1) := by decide +kernel
theorem dX2_bitsOfMean_15 : decode cX2_bitsOfMean 15 = .ok (.getfield 13, 3) := by decide +kernel
theorem dX2_bitsOfMean_18 : decode cX2_bitsOfMean 18 = .ok (.i2f, 1) := by decide +kernel
theorem dX2_bitsOfMean_19 : decode cX2_bitsOfMean 19 = .ok (.fdiv, 1) := by decide +kernel
theorem dX2_bitsOfMean_20 : decode cX2_bitsOfMean 20 = .ok (.invokestatic 36, 3) := by decide +kernel
theorem dX2_bitsOfMean_23 : decode cX2_bitsOfMean 23 = .ok (.ireturn, 1) := by decide +kernel
theorem dX2_bitsOf_0 : decode cX2_bitsOf 0 = .ok (.fload_n 0, 1) := by decide +kernel
theorem dX2_bitsOf_1 : decode cX2_bitsOf 1 = .ok (.fconst 0, 1) := by decide +kernel
theorem dX2_bitsOf_2 : decode cX2_bitsOf 2 = .ok (.fcmp .g, 1) := by decide +kernel
theorem dX2_bitsOf_3 : decode cX2_bitsOf 3 = .ok (.ifCond .gt 5, 3) := by decide +kernel
theorem dX2_bitsOf_6 : decode cX2_bitsOf 6 = .ok (.iconst 0, 1) := by decide +kernel
theorem dX2_bitsOf_7 : decode cX2_bitsOf 7 = .ok (.ireturn, 1) := by decide +kernel
theorem dX2_bitsOf_8 : decode cX2_bitsOf 8 = .ok (.fload_n 0, 1) := by decide +kernel
theorem dX2_bitsOf_9 : decode cX2_bitsOf 9 = .ok (.fstore_n 1, 1) := by decide +kernel
theorem dX2_bitsOf_10 : decode cX2_bitsOf 10 = .ok (.bipush 127, 2) := by decide +kernel
theorem dX2_bitsOf_12 : decode cX2_bitsOf 12 = .ok (.istore_n 2, 1) := by decide +kernel
theorem dX2_bitsOf_13 : decode cX2_bitsOf 13 = .ok (.iconst 0, 1) := by decide +kernel
theorem dX2_bitsOf_14 : decode cX2_bitsOf 14 = .ok (.istore_n 3, 1) := by decide +kernel
theorem dX2_bitsOf_15 : decode cX2_bitsOf 15 = .ok (.iload_n 3, 1) := by decide +kernel
theorem dX2_bitsOf_16 : decode cX2_bitsOf 16 = .ok (.sipush 200, 3) := by decide +kernel
theorem dX2_bitsOf_19 : decode cX2_bitsOf 19 = .ok (.if_icmp .ge 22, 3) := by decide +kernel
theorem dX2_bitsOf_22 : decode cX2_bitsOf 22 = .ok (.fload_n 1, 1) := by decide +kernel
theorem dX2_bitsOf_23 : decode cX2_bitsOf 23 = .ok (.fconst 2, 1) := by decide +kernel
theorem dX2_bitsOf_24 : decode cX2_bitsOf 24 = .ok (.fcmp .l, 1) := by decide +kernel
theorem dX2_bitsOf_25 : decode cX2_bitsOf 25 = .ok (.ifCond .lt 16, 3) := by decide +kernel
theorem dX2_bitsOf_28 : decode cX2_bitsOf 28 = .ok (.fload_n 1, 1) := by decide +kernel
theorem dX2_bitsOf_29 : decode cX2_bitsOf 29 = .ok (.fconst 2, 1) := by decide +kernel
theorem dX2_bitsOf_30 : decode cX2_bitsOf 30 = .ok (.fdiv, 1) := by decide +kernel
theorem dX2_bitsOf_31 : decode cX2_bitsOf 31 = .ok (.fstore_n 1, 1) := by decide +kernel
theorem dX2_bitsOf_32 : decode cX2_bitsOf 32 = .ok (.iinc 2 1, 3) := by decide +kernel
theorem dX2_bitsOf_35 : decode cX2_bitsOf 35 = .ok (.iinc 3 1, 3) := by decide +kernel
theorem dX2_bitsOf_38 : decode cX2_bitsOf 38 = .ok (.goto (-23), 3) := by decide +kernel
theorem dX2_bitsOf_41 : decode cX2_bitsOf 41 = .ok (.iconst 0, 1) := by decide +kernel
theorem dX2_bitsOf_42 : decode cX2_bitsOf 42 = .ok (.istore_n 3, 1) := by decide +kernel
theorem dX2_bitsOf_43 : decode cX2_bitsOf 43 = .ok (.iload_n 3, 1) := by decide +kernel
theorem dX2_bitsOf_44 : decode cX2_bitsOf 44 = .ok (.sipush 200, 3) := by decide +kernel
theorem dX2_bitsOf_47 : decode cX2_bitsOf 47 = .ok (.if_icmp .ge 22, 3) := by decide +kernel
theorem dX2_bitsOf_50 : decode cX2_bitsOf 50 = .ok (.fload_n 1, 1) := by decide +kernel
theorem dX2_bitsOf_51 : decode cX2_bitsOf 51 = .ok (.fconst 1, 1) := by decide +kernel
theorem dX2_bitsOf_52 : decode cX2_bitsOf 52 = .ok (.fcmp .g, 1) := by decide +kernel
theorem dX2_bitsOf_53 : decode cX2_bitsOf 53 = .ok (.ifCond .ge 16, 3) := by decide +kernel
theorem dX2_bitsOf_56 : decode cX2_bitsOf 56 = .ok (.fload_n 1, 1) := by decide +kernel
theorem dX2_bitsOf_57 : decode cX2_bitsOf 57 = .ok (.fconst 2, 1) := by decide +kernel
theorem dX2_bitsOf_58 : decode cX2_bitsOf 58 = .ok (.fmul, 1) := by decide +kernel
theorem dX2_bitsOf_59 : decode cX2_bitsOf 59 = .ok (.fstore_n 1, 1) := by decide +kernel
theorem dX2_bitsOf_60 : decode cX2_bitsOf 60 = .ok (.iinc 2 (-1), 3) := by decide +kernel
theorem dX2_bitsOf_63 : decode cX2_bitsOf 63 = .ok (.iinc 3 1, 3) := by decide +kernel
theorem dX2_bitsOf_66 : decode cX2_bitsOf 66 = .ok (.goto (-23), 3) := by decide +kernel
theorem dX2_bitsOf_69 : decode cX2_bitsOf 69 = .ok (.fload_n 1, 1) := by decide +kernel
theorem dX2_bitsOf_70 : decode cX2_bitsOf 70 = .ok (.fconst 1, 1) := by decide +kernel
theorem dX2_bitsOf_71 : decode cX2_bitsOf 71 = .ok (.fsub, 1) := by decide +kernel
theorem dX2_bitsOf_72 : decode cX2_bitsOf 72 = .ok (.ldc 40, 2) := by decide +kernel
theorem dX2_bitsOf_74 : decode cX2_bitsOf 74 = .ok (.fmul, 1) := by decide +kernel
theorem dX2_bitsOf_75 : decode cX2_bitsOf 75 = .ok (.f2i, 1) := by decide +kernel
theorem dX2_bitsOf_76 : decode cX2_bitsOf 76 = .ok (.istore_n 3, 1) := by decide +kernel
theorem dX2_bitsOf_77 : decode cX2_bitsOf 77 = .ok (.iload_n 2, 1) := by decide +kernel
theorem dX2_bitsOf_78 : decode cX2_bitsOf 78 = .ok (.ldc 41, 2) := by decide +kernel
theorem dX2_bitsOf_80 : decode cX2_bitsOf 80 = .ok (.imul, 1) := by decide +kernel
theorem dX2_bitsOf_81 : decode cX2_bitsOf 81 = .ok (.iload_n 3, 1) := by decide +kernel
theorem dX2_bitsOf_82 : decode cX2_bitsOf 82 = .ok (.iadd, 1) := by decide +kernel
theorem dX2_bitsOf_83 : decode cX2_bitsOf 83 = .ok (.ireturn, 1) := by decide +kernel
theorem dX2_takeOver_0 : decode cX2_takeOver 0 = .ok (.aload_n 0, 1) := by decide +kernel
theorem dX2_takeOver_1 : decode cX2_takeOver 1 = .ok (.aload_n 1, 1) := by decide +kernel
theorem dX2_takeOver_2 : decode cX2_takeOver 2 = .ok (.getfield 13, 3) := by decide +kernel
theorem dX2_takeOver_5 : decode cX2_takeOver 5 = .ok (.putfield 13, 3) := by decide +kernel
theorem dX2_takeOver_8 : decode cX2_takeOver 8 = .ok (.aload_n 0, 1) := by decide +kernel
theorem dX2_takeOver_9 : decode cX2_takeOver 9 = .ok (.aload_n 1, 1) := by decide +kernel
theorem dX2_takeOver_10 : decode cX2_takeOver 10 = .ok (.getfield 23, 3) := by decide +kernel
theorem dX2_takeOver_13 : decode cX2_takeOver 13 = .ok (.putfield 23, 3) := by decide +kernel
theorem dX2_takeOver_16 : decode cX2_takeOver 16 = .ok (.aload_n 0, 1) := by decide +kernel
theorem dX2_takeOver_17 : decode cX2_takeOver 17 = .ok (.aload_n 1, 1) := by decide +kernel
theorem dX2_takeOver_18 : decode cX2_takeOver 18 = .ok (.getfield 30, 3) := by decide +kernel
theorem dX2_takeOver_21 : decode cX2_takeOver 21 = .ok (.putfield 30, 3) := by decide +kernel
theorem dX2_takeOver_24 : decode cX2_takeOver 24 = .ok (.aload_n 0, 1) := by decide +kernel
theorem dX2_takeOver_25 : decode cX2_takeOver 25 = .ok (.aload_n 1, 1) := by decide +kernel
theorem dX2_takeOver_26 : decode cX2_takeOver 26 = .ok (.getfield 33, 3) := by decide +kernel
theorem dX2_takeOver_29 : decode cX2_takeOver 29 = .ok (.putfield 33, 3) := by decide +kernel
theorem dX2_takeOver_32 : decode cX2_takeOver 32 = .ok (.aload_n 0, 1) := by decide +kernel
theorem dX2_takeOver_33 : decode cX2_takeOver 33 = .ok (.aload_n 1, 1) := by decide +kernel
theorem dX2_takeOver_34 : decode cX2_takeOver 34 = .ok (.getfield 19, 3) := by decide +kernel
theorem dX2_takeOver_37 : decode cX2_takeOver 37 = .ok (.putfield 19, 3) := by decide +kernel
theorem dX2_takeOver_40 : decode cX2_takeOver 40 = .ok (.return_, 1) := by decide +kernel
theorem dX3_init_0 : decode cX3_init 0 = .ok (.aload_n 0, 1) := by decide +kernel
theorem dX3_init_1 : decode cX3_init 1 = .ok (.invokespecial 3, 3) := by decide +kernel
theorem dX3_init_4 : decode cX3_init 4 = .ok (.aload_n 0, 1) := by decide +kernel
theorem dX3_init_5 : decode cX3_init 5 = .ok (.iconst 3, 1) := by decide +kernel
theorem dX3_init_6 : decode cX3_init 6 = .ok (.newarray .int, 2) := by decide +kernel
theorem dX3_init_8 : decode cX3_init 8 = .ok (.putfield 9, 3) := by decide +kernel
theorem dX3_init_11 : decode cX3_init 11 = .ok (.return_, 1) := by decide +kernel
theorem dX4_init_0 : decode cX4_init 0 = .ok (.aload_n 0, 1) := by decide +kernel
theorem dX4_init_1 : decode cX4_init 1 = .ok (.invokespecial 3, 3) := by decide +kernel
theorem dX4_init_4 : decode cX4_init 4 = .ok (.aload_n 0, 1) := by decide +kernel
theorem dX4_init_5 : decode cX4_init 5 = .ok (.bipush 12, 2) := by decide +kernel
theorem dX4_init_7 : decode cX4_init 7 = .ok (.newarray .int, 2) := by decide +kernel
theorem dX4_init_9 : decode cX4_init 9 = .ok (.putfield 9, 3) := by decide +kernel
theorem dX4_init_12 : decode cX4_init 12 = .ok (.return_, 1) := by decide +kernel
theorem dX4_add_0 : decode cX4_add 0 = .ok (.aload_n 0, 1) := by decide +kernel
theorem dX4_add_1 : decode cX4_add 1 = .ok (.getfield 15, 3) := by decide +kernel
theorem dX4_add_4 : decode cX4_add 4 = .ok (.ifCond .lt 12, 3) := by decide +kernel
theorem dX4_add_7 : decode cX4_add 7 = .ok (.aload_n 0, 1) := by decide +kernel
theorem dX4_add_8 : decode cX4_add 8 = .ok (.getfield 15, 3) := by decide +kernel
theorem dX4_add_11 : decode cX4_add 11 = .ok (.bipush 12, 2) := by decide +kernel
theorem dX4_add_13 : decode cX4_add 13 = .ok (.if_icmp .lt 8, 3) := by decide +kernel
theorem dX4_add_16 : decode cX4_add 16 = .ok (.aload_n 0, 1) := by decide +kernel
theorem dX4_add_17 : decode cX4_add 17 = .ok (.iconst 0, 1) := by decide +kernel
theorem dX4_add_18 : decode cX4_add 18 = .ok (.putfield 15, 3) := by decide +kernel
theorem dX4_add_21 : decode cX4_add 21 = .ok (.aload_n 0, 1) := by decide +kernel
theorem dX4_add_22 : decode cX4_add 22 = .ok (.getfield 9, 3) := by decide +kernel
theorem dX4_add_25 : decode cX4_add 25 = .ok (.aload_n 0, 1) := by decide +kernel
theorem dX4_add_26 : decode cX4_add 26 = .ok (.getfield 15, 3) := by decide +kernel
theorem dX4_add_29 : decode cX4_add 29 = .ok (.iload_n 1, 1) := by decide +kernel
theorem dX4_add_30 : decode cX4_add 30 = .ok (.iastore, 1) := by decide +kernel
theorem dX4_add_31 : decode cX4_add 31 = .ok (.aload_n 0, 1) := by decide +kernel
theorem dX4_add_32 : decode cX4_add 32 = .ok (.dup, 1) := by decide +kernel
theorem dX4_add_33 : decode cX4_add 33 = .ok (.getfield 15, 3) := by decide +kernel
theorem dX4_add_36 : decode cX4_add 36 = .ok (.iconst 1, 1) := by decide +kernel
theorem dX4_add_37 : decode cX4_add 37 = .ok (.iadd, 1) := by decide +kernel
theorem dX4_add_38 : decode cX4_add 38 = .ok (.putfield 15, 3) := by decide +kernel
theorem dX4_add_41 : decode cX4_add 41 = .ok (.aload_n 0, 1) := by decide +kernel
theorem dX4_add_42 : decode cX4_add 42 = .ok (.aload_n 0, 1) := by decide +kernel
theorem dX4_add_43 : decode cX4_add 43 = .ok (.getfield 19, 3) := by decide +kernel
theorem dX4_add_46 : decode cX4_add 46 = .ok (.iconst 1, 1) := by decide +kernel
theorem dX4_add_47 : decode cX4_add 47 = .ok (.iadd, 1) := by decide +kernel
theorem dX4_add_48 : decode cX4_add 48 = .ok (.bipush 12, 2) := by decide +kernel
theorem dX4_add_50 : decode cX4_add 50 = .ok (.invokestatic 22, 3) := by decide +kernel
theorem dX4_add_53 : decode cX4_add 53 = .ok (.putfield 19, 3) := by decide +kernel
theorem dX4_add_56 : decode cX4_add 56 = .ok (.return_, 1) := by decide +kernel
theorem dX4_latest_0 : decode cX4_latest 0 = .ok (.iload_n 1, 1) := by decide +kernel
theorem dX4_latest_1 : decode cX4_latest 1 = .ok (.ifCond .lt 11, 3) := by decide +kernel
theorem dX4_latest_4 : decode cX4_latest 4 = .ok (.iload_n 1, 1) := by decide +kernel
theorem dX4_latest_5 : decode cX4_latest 5 = .ok (.aload_n 0, 1) := by decide +kernel
theorem dX4_latest_6 : decode cX4_latest 6 = .ok (.getfield 19, 3) := by decide +kernel
theorem dX4_latest_9 : decode cX4_latest 9 = .ok (.if_icmp .lt 5, 3) := by decide +kernel
theorem dX4_latest_12 : decode cX4_latest 12 = .ok (.iconst 0, 1) := by decide +kernel
theorem dX4_latest_13 : decode cX4_latest 13 = .ok (.ireturn, 1) := by decide +kernel
theorem dX4_latest_14 : decode cX4_latest 14 = .ok (.aload_n 0, 1) := by decide +kernel
theorem dX4_latest_15 : decode cX4_latest 15 = .ok (.getfield 9, 3) := by decide +kernel
theorem dX4_latest_18 : decode cX4_latest 18 = .ok (.aload_n 0, 1) := by decide +kernel
theorem dX4_latest_19 : decode cX4_latest 19 = .ok (.getfield 15, 3) := by decide +kernel
theorem dX4_latest_22 : decode cX4_latest 22 = .ok (.iconst 1, 1) := by decide +kernel
theorem dX4_latest_23 : decode cX4_latest 23 = .ok (.isub, 1) := by decide +kernel
theorem dX4_latest_24 : decode cX4_latest 24 = .ok (.iload_n 1, 1) := by decide +kernel
theorem dX4_latest_25 : decode cX4_latest 25 = .ok (.isub, 1) := by decide +kernel
theorem dX4_latest_26 : decode cX4_latest 26 = .ok (.bipush 12, 2) := by decide +kernel
theorem dX4_latest_28 : decode cX4_latest 28 = .ok (.invokestatic 28, 3) := by decide +kernel
theorem dX4_latest_31 : decode cX4_latest 31 = .ok (.iaload, 1) := by decide +kernel
theorem dX4_latest_32 : decode cX4_latest 32 = .ok (.ireturn, 1) := by decide +kernel
theorem dX4_takeOver_0 : decode cX4_takeOver 0 = .ok (.aload_n 1, 1) := by decide +kernel
theorem dX4_takeOver_1 : decode cX4_takeOver 1 = .ok (.getfield 9, 3) := by decide +kernel
theorem dX4_takeOver_4 : decode cX4_takeOver 4 = .ok (.iconst 0, 1) := by decide +kernel
theorem dX4_takeOver_5 : decode cX4_takeOver 5 = .ok (.aload_n 0, 1) := by decide +kernel
theorem dX4_takeOver_6 : decode cX4_takeOver 6 = .ok (.getfield 9, 3) := by decide +kernel
theorem dX4_takeOver_9 : decode cX4_takeOver 9 = .ok (.iconst 0, 1) := by decide +kernel
theorem dX4_takeOver_10 : decode cX4_takeOver 10 = .ok (.bipush 12, 2) := by decide +kernel
theorem dX4_takeOver_12 : decode cX4_takeOver 12 = .ok (.invokestatic 31, 3) := by decide +kernel
theorem dX4_takeOver_15 : decode cX4_takeOver 15 = .ok (.aload_n 0, 1) := by decide +kernel
theorem dX4_takeOver_16 : decode cX4_takeOver 16 = .ok (.aload_n 1, 1) := by decide +kernel
theorem dX4_takeOver_17 : decode cX4_takeOver 17 = .ok (.getfield 15, 3) := by decide +kernel
theorem dX4_takeOver_20 : decode cX4_takeOver 20 = .ok (.putfield 15, 3) := by decide +kernel
theorem dX4_takeOver_23 : decode cX4_takeOver 23 = .ok (.aload_n 0, 1) := by decide +kernel
theorem dX4_takeOver_24 : decode cX4_takeOver 24 = .ok (.aload_n 1, 1) := by decide +kernel
theorem dX4_takeOver_25 : decode cX4_takeOver 25 = .ok (.getfield 19, 3) := by decide +kernel
theorem dX4_takeOver_28 : decode cX4_takeOver 28 = .ok (.putfield 19, 3) := by decide +kernel
theorem dX4_takeOver_31 : decode cX4_takeOver 31 = .ok (.return_, 1) := by decide +kernel
theorem dX5_init_0 : decode cX5_init 0 = .ok (.aload_n 0, 1) := by decide +kernel
theorem dX5_init_1 : decode cX5_init 1 = .ok (.invokespecial 3, 3) := by decide +kernel
theorem dX5_init_4 : decode cX5_init 4 = .ok (.aload_n 0, 1) := by decide +kernel
theorem dX5_init_5 : decode cX5_init 5 = .ok (.bipush 64, 2) := by decide +kernel
theorem dX5_init_7 : decode cX5_init 7 = .ok (.newarray .int, 2) := by decide +kernel
theorem dX5_init_9 : decode cX5_init 9 = .ok (.putfield 9, 3) := by decide +kernel
theorem dX5_init_12 : decode cX5_init 12 = .ok (.aload_n 0, 1) := by decide +kernel
theorem dX5_init_13 : decode cX5_init 13 = .ok (.bipush 64, 2) := by decide +kernel
theorem dX5_init_15 : decode cX5_init 15 = .ok (.putfield 15, 3) := by decide +kernel
theorem dX5_init_18 : decode cX5_init 18 = .ok (.return_, 1) := by decide +kernel
theorem dX5_wordAt_0 : decode cX5_wordAt 0 = .ok (.iload_n 1, 1) := by decide +kernel
theorem dX5_wordAt_1 : decode cX5_wordAt 1 = .ok (.ifCond .lt 11, 3) := by decide +kernel
theorem dX5_wordAt_4 : decode cX5_wordAt 4 = .ok (.iload_n 1, 1) := by decide +kernel
theorem dX5_wordAt_5 : decode cX5_wordAt 5 = .ok (.aload_n 0, 1) := by decide +kernel
theorem dX5_wordAt_6 : decode cX5_wordAt 6 = .ok (.getfield 15, 3) := by decide +kernel
theorem dX5_wordAt_9 : decode cX5_wordAt 9 = .ok (.if_icmp .lt 5, 3) := by decide +kernel
theorem dX5_wordAt_12 : decode cX5_wordAt 12 = .ok (.iconst 0, 1) := by decide +kernel
theorem dX5_wordAt_13 : decode cX5_wordAt 13 = .ok (.ireturn, 1) := by decide +kernel
theorem dX5_wordAt_14 : decode cX5_wordAt 14 = .ok (.aload_n 0, 1) := by decide +kernel
theorem dX5_wordAt_15 : decode cX5_wordAt 15 = .ok (.getfield 9, 3) := by decide +kernel
theorem dX5_wordAt_18 : decode cX5_wordAt 18 = .ok (.aload_n 0, 1) := by decide +kernel
theorem dX5_wordAt_19 : decode cX5_wordAt 19 = .ok (.getfield 19, 3) := by decide +kernel
theorem dX5_wordAt_22 : decode cX5_wordAt 22 = .ok (.iload_n 1, 1) := by decide +kernel
theorem dX5_wordAt_23 : decode cX5_wordAt 23 = .ok (.iadd, 1) := by decide +kernel
theorem dX5_wordAt_24 : decode cX5_wordAt 24 = .ok (.bipush 63, 2) := by decide +kernel
theorem dX5_wordAt_26 : decode cX5_wordAt 26 = .ok (.iand, 1) := by decide +kernel
theorem dX5_wordAt_27 : decode cX5_wordAt 27 = .ok (.iaload, 1) := by decide +kernel
theorem dX5_wordAt_28 : decode cX5_wordAt 28 = .ok (.ireturn, 1) := by decide +kernel
theorem dX5_write_0 : decode cX5_write 0 = .ok (.aload_n 0, 1) := by decide +kernel
theorem dX5_write_1 : decode cX5_write 1 = .ok (.aload_n 0, 1) := by decide +kernel
theorem dX5_write_2 : decode cX5_write 2 = .ok (.getfield 19, 3) := by decide +kernel
theorem dX5_write_5 : decode cX5_write 5 = .ok (.iconst 1, 1) := by decide +kernel
theorem dX5_write_6 : decode cX5_write 6 = .ok (.isub, 1) := by decide +kernel
theorem dX5_write_7 : decode cX5_write 7 = .ok (.bipush 63, 2) := by decide +kernel
theorem dX5_write_9 : decode cX5_write 9 = .ok (.iand, 1) := by decide +kernel
theorem dX5_write_10 : decode cX5_write 10 = .ok (.putfield 19, 3) := by decide +kernel
theorem dX5_write_13 : decode cX5_write 13 = .ok (.aload_n 0, 1) := by decide +kernel
theorem dX5_write_14 : decode cX5_write 14 = .ok (.getfield 9, 3) := by decide +kernel
theorem dX5_write_17 : decode cX5_write 17 = .ok (.aload_n 0, 1) := by decide +kernel
theorem dX5_write_18 : decode cX5_write 18 = .ok (.getfield 19, 3) := by decide +kernel
theorem dX5_write_21 : decode cX5_write 21 = .ok (.bipush 63, 2) := by decide +kernel
theorem dX5_write_23 : decode cX5_write 23 = .ok (.iand, 1) := by decide +kernel
theorem dX5_write_24 : decode cX5_write 24 = .ok (.iload_n 1, 1) := by decide +kernel
theorem dX5_write_25 : decode cX5_write 25 = .ok (.iastore, 1) := by decide +kernel
theorem dX5_write_26 : decode cX5_write 26 = .ok (.return_, 1) := by decide +kernel
theorem dX5_shorten_0 : decode cX5_shorten 0 = .ok (.aload_n 0, 1) := by decide +kernel
theorem dX5_shorten_1 : decode cX5_shorten 1 = .ok (.aload_n 0, 1) := by decide +kernel
theorem dX5_shorten_2 : decode cX5_shorten 2 = .ok (.getfield 15, 3) := by decide +kernel
theorem dX5_shorten_5 : decode cX5_shorten 5 = .ok (.iload_n 1, 1) := by decide +kernel
theorem dX5_shorten_6 : decode cX5_shorten 6 = .ok (.isub, 1) := by decide +kernel
theorem dX5_shorten_7 : decode cX5_shorten 7 = .ok (.iconst 0, 1) := by decide +kernel
theorem dX5_shorten_8 : decode cX5_shorten 8 = .ok (.invokestatic 22, 3) := by decide +kernel
theorem dX5_shorten_11 : decode cX5_shorten 11 = .ok (.putfield 15, 3) := by decide +kernel
theorem dX5_shorten_14 : decode cX5_shorten 14 = .ok (.return_, 1) := by decide +kernel
theorem dX5_lengthen_0 : decode cX5_lengthen 0 = .ok (.aload_n 0, 1) := by decide +kernel
theorem dX5_lengthen_1 : decode cX5_lengthen 1 = .ok (.getfield 15, 3) := by decide +kernel
theorem dX5_lengthen_4 : decode cX5_lengthen 4 = .ok (.iload_n 1, 1) := by decide +kernel
theorem dX5_lengthen_5 : decode cX5_lengthen 5 = .ok (.iadd, 1) := by decide +kernel
theorem dX5_lengthen_6 : decode cX5_lengthen 6 = .ok (.bipush 64, 2) := by decide +kernel
theorem dX5_lengthen_8 : decode cX5_lengthen 8 = .ok (.invokestatic 28, 3) := by decide +kernel
theorem dX5_lengthen_11 : decode cX5_lengthen 11 = .ok (.istore_n 2, 1) := by decide +kernel
theorem dX5_lengthen_12 : decode cX5_lengthen 12 = .ok (.aload_n 0, 1) := by decide +kernel
theorem dX5_lengthen_13 : decode cX5_lengthen 13 = .ok (.getfield 15, 3) := by decide +kernel
theorem dX5_lengthen_16 : decode cX5_lengthen 16 = .ok (.istore_n 3, 1) := by decide +kernel
theorem dX5_lengthen_17 : decode cX5_lengthen 17 = .ok (.iload_n 3, 1) := by decide +kernel
theorem dX5_lengthen_18 : decode cX5_lengthen 18 = .ok (.iload_n 2, 1) := by decide +kernel
theorem dX5_lengthen_19 : decode cX5_lengthen 19 = .ok (.if_icmp .ge 24, 3) := by decide +kernel
theorem dX5_lengthen_22 : decode cX5_lengthen 22 = .ok (.aload_n 0, 1) := by decide +kernel
theorem dX5_lengthen_23 : decode cX5_lengthen 23 = .ok (.getfield 9, 3) := by decide +kernel
theorem dX5_lengthen_26 : decode cX5_lengthen 26 = .ok (.aload_n 0, 1) := by decide +kernel
theorem dX5_lengthen_27 : decode cX5_lengthen 27 = .ok (.getfield 19, 3) := by decide +kernel
theorem dX5_lengthen_30 : decode cX5_lengthen 30 = .ok (.iload_n 3, 1) := by decide +kernel
theorem dX5_lengthen_31 : decode cX5_lengthen 31 = .ok (.iadd, 1) := by decide +kernel
theorem dX5_lengthen_32 : decode cX5_lengthen 32 = .ok (.bipush 63, 2) := by decide +kernel
theorem dX5_lengthen_34 : decode cX5_lengthen 34 = .ok (.iand, 1) := by decide +kernel
theorem dX5_lengthen_35 : decode cX5_lengthen 35 = .ok (.iconst 0, 1) := by decide +kernel
theorem dX5_lengthen_36 : decode cX5_lengthen 36 = .ok (.iastore, 1) := by decide +kernel
theorem dX5_lengthen_37 : decode cX5_lengthen 37 = .ok (.iinc 3 1, 3) := by decide +kernel
theorem dX5_lengthen_40 : decode cX5_lengthen 40 = .ok (.goto (-23), 3) := by decide +kernel
theorem dX5_lengthen_43 : decode cX5_lengthen 43 = .ok (.aload_n 0, 1) := by decide +kernel
theorem dX5_lengthen_44 : decode cX5_lengthen 44 = .ok (.iload_n 2, 1) := by decide +kernel
theorem dX5_lengthen_45 : decode cX5_lengthen 45 = .ok (.putfield 15, 3) := by decide +kernel
theorem dX5_lengthen_48 : decode cX5_lengthen 48 = .ok (.return_, 1) := by decide +kernel
theorem dX5_wordsAbove_0 : decode cX5_wordsAbove 0 = .ok (.iconst 0, 1) := by decide +kernel
theorem dX5_wordsAbove_1 : decode cX5_wordsAbove 1 = .ok (.istore_n 2, 1) := by decide +kernel
theorem dX5_wordsAbove_2 : decode cX5_wordsAbove 2 = .ok (.iconst 0, 1) := by decide +kernel
theorem dX5_wordsAbove_3 : decode cX5_wordsAbove 3 = .ok (.istore_n 3, 1) := by decide +kernel
theorem dX5_wordsAbove_4 : decode cX5_wordsAbove 4 = .ok (.iload_n 3, 1) := by decide +kernel
theorem dX5_wordsAbove_5 : decode cX5_wordsAbove 5 = .ok (.aload_n 0, 1) := by decide +kernel
theorem dX5_wordsAbove_6 : decode cX5_wordsAbove 6 = .ok (.getfield 15, 3) := by decide +kernel
theorem dX5_wordsAbove_9 : decode cX5_wordsAbove 9 = .ok (.if_icmp .ge 29, 3) := by decide +kernel
theorem dX5_wordsAbove_12 : decode cX5_wordsAbove 12 = .ok (.iload_n 2, 1) := by decide +kernel
theorem dX5_wordsAbove_13 : decode cX5_wordsAbove 13 = .ok (.aload_n 0, 1) := by decide +kernel
theorem dX5_wordsAbove_14 : decode cX5_wordsAbove 14 = .ok (.iload_n 3, 1) := by decide +kernel
theorem dX5_wordsAbove_15 : decode cX5_wordsAbove 15 = .ok (.invokevirtual 37, 3) := by decide +kernel
theorem dX5_wordsAbove_18 : decode cX5_wordsAbove 18 = .ok (.invokestatic 41, 3) := by decide +kernel
theorem dX5_wordsAbove_21 : decode cX5_wordsAbove 21 = .ok (.iload_n 1, 1) := by decide +kernel
theorem dX5_wordsAbove_22 : decode cX5_wordsAbove 22 = .ok (.if_icmp .le 7, 3) := by decide +kernel
theorem dX5_wordsAbove_25 : decode cX5_wordsAbove 25 = .ok (.iconst 1, 1) := by decide +kernel
theorem dX5_wordsAbove_26 : decode cX5_wordsAbove 26 = .ok (.goto 4, 3) := by decide +kernel
theorem dX5_wordsAbove_29 : decode cX5_wordsAbove 29 = .ok (.iconst 0, 1) := by decide +kernel
theorem dX5_wordsAbove_30 : decode cX5_wordsAbove 30 = .ok (.iadd, 1) := by decide +kernel
theorem dX5_wordsAbove_31 : decode cX5_wordsAbove 31 = .ok (.istore_n 2, 1) := by decide +kernel
theorem dX5_wordsAbove_32 : decode cX5_wordsAbove 32 = .ok (.iinc 3 1, 3) := by decide +kernel
theorem dX5_wordsAbove_35 : decode cX5_wordsAbove 35 = .ok (.goto (-31), 3) := by decide +kernel
theorem dX5_wordsAbove_38 : decode cX5_wordsAbove 38 = .ok (.iload_n 2, 1) := by decide +kernel
theorem dX5_wordsAbove_39 : decode cX5_wordsAbove 39 = .ok (.ireturn, 1) := by decide +kernel
theorem dX5_sumOfAmounts_0 : decode cX5_sumOfAmounts 0 = .ok (.iconst 0, 1) := by decide +kernel
theorem dX5_sumOfAmounts_1 : decode cX5_sumOfAmounts 1 = .ok (.istore_n 1, 1) := by decide +kernel
theorem dX5_sumOfAmounts_2 : decode cX5_sumOfAmounts 2 = .ok (.iconst 0, 1) := by decide +kernel
theorem dX5_sumOfAmounts_3 : decode cX5_sumOfAmounts 3 = .ok (.istore_n 2, 1) := by decide +kernel
theorem dX5_sumOfAmounts_4 : decode cX5_sumOfAmounts 4 = .ok (.iload_n 2, 1) := by decide +kernel
theorem dX5_sumOfAmounts_5 : decode cX5_sumOfAmounts 5 = .ok (.aload_n 0, 1) := by decide +kernel
theorem dX5_sumOfAmounts_6 : decode cX5_sumOfAmounts 6 = .ok (.getfield 15, 3) := by decide +kernel
theorem dX5_sumOfAmounts_9 : decode cX5_sumOfAmounts 9 = .ok (.if_icmp .ge 20, 3) := by decide +kernel
theorem dX5_sumOfAmounts_12 : decode cX5_sumOfAmounts 12 = .ok (.iload_n 1, 1) := by decide +kernel
theorem dX5_sumOfAmounts_13 : decode cX5_sumOfAmounts 13 = .ok (.aload_n 0, 1) := by decide +kernel
theorem dX5_sumOfAmounts_14 : decode cX5_sumOfAmounts 14 = .ok (.iload_n 2, 1) := by decide +kernel
theorem dX5_sumOfAmounts_15 : decode cX5_sumOfAmounts 15 = .ok (.invokevirtual 37, 3) := by decide +kernel
theorem dX5_sumOfAmounts_18 : decode cX5_sumOfAmounts 18 = .ok (.invokestatic 41, 3) := by decide +kernel
theorem dX5_sumOfAmounts_21 : decode cX5_sumOfAmounts 21 = .ok (.iadd, 1) := by decide +kernel
theorem dX5_sumOfAmounts_22 : decode cX5_sumOfAmounts 22 = .ok (.istore_n 1, 1) := by decide +kernel
theorem dX5_sumOfAmounts_23 : decode cX5_sumOfAmounts 23 = .ok (.iinc 2 1, 3) := by decide +kernel
theorem dX5_sumOfAmounts_26 : decode cX5_sumOfAmounts 26 = .ok (.goto (-22), 3) := by decide +kernel
theorem dX5_sumOfAmounts_29 : decode cX5_sumOfAmounts 29 = .ok (.iload_n 1, 1) := by decide +kernel
theorem dX5_sumOfAmounts_30 : decode cX5_sumOfAmounts 30 = .ok (.ireturn, 1) := by decide +kernel
theorem dX5_takeOver_0 : decode cX5_takeOver 0 = .ok (.aload_n 1, 1) := by decide +kernel
theorem dX5_takeOver_1 : decode cX5_takeOver 1 = .ok (.getfield 9, 3) := by decide +kernel
theorem dX5_takeOver_4 : decode cX5_takeOver 4 = .ok (.iconst 0, 1) := by decide +kernel
theorem dX5_takeOver_5 : decode cX5_takeOver 5 = .ok (.aload_n 0, 1) := by decide +kernel
theorem dX5_takeOver_6 : decode cX5_takeOver 6 = .ok (.getfield 9, 3) := by decide +kernel
theorem dX5_takeOver_9 : decode cX5_takeOver 9 = .ok (.iconst 0, 1) := by decide +kernel
theorem dX5_takeOver_10 : decode cX5_takeOver 10 = .ok (.bipush 64, 2) := by decide +kernel
theorem dX5_takeOver_12 : decode cX5_takeOver 12 = .ok (.invokestatic 44, 3) := by decide +kernel
theorem dX5_takeOver_15 : decode cX5_takeOver 15 = .ok (.aload_n 0, 1) := by decide +kernel
theorem dX5_takeOver_16 : decode cX5_takeOver 16 = .ok (.aload_n 1, 1) := by decide +kernel
theorem dX5_takeOver_17 : decode cX5_takeOver 17 = .ok (.getfield 19, 3) := by decide +kernel
theorem dX5_takeOver_20 : decode cX5_takeOver 20 = .ok (.putfield 19, 3) := by decide +kernel
theorem dX5_takeOver_23 : decode cX5_takeOver 23 = .ok (.aload_n 0, 1) := by decide +kernel
theorem dX5_takeOver_24 : decode cX5_takeOver 24 = .ok (.aload_n 1, 1) := by decide +kernel
theorem dX5_takeOver_25 : decode cX5_takeOver 25 = .ok (.getfield 15, 3) := by decide +kernel
theorem dX5_takeOver_28 : decode cX5_takeOver 28 = .ok (.putfield 15, 3) := by decide +kernel
theorem dX5_takeOver_31 : decode cX5_takeOver 31 = .ok (.return_, 1) := by decide +kernel
theorem dX6_init_0 : decode cX6_init 0 = .ok (.aload_n 0, 1) := by decide +kernel
theorem dX6_init_1 : decode cX6_init 1 = .ok (.invokespecial 3, 3) := by decide +kernel
theorem dX6_init_4 : decode cX6_init 4 = .ok (.aload_n 0, 1) := by decide +kernel
theorem dX6_init_5 : decode cX6_init 5 = .ok (.new 9, 3) := by decide +kernel
theorem dX6_init_8 : decode cX6_init 8 = .ok (.dup, 1) := by decide +kernel
theorem dX6_init_9 : decode cX6_init 9 = .ok (.invokespecial 11, 3) := by decide +kernel
theorem dX6_init_12 : decode cX6_init 12 = .ok (.putfield 12, 3) := by decide +kernel
theorem dX6_init_15 : decode cX6_init 15 = .ok (.aload_n 0, 1) := by decide +kernel
theorem dX6_init_16 : decode cX6_init 16 = .ok (.new 18, 3) := by decide +kernel
theorem dX6_init_19 : decode cX6_init 19 = .ok (.dup, 1) := by decide +kernel
theorem dX6_init_20 : decode cX6_init 20 = .ok (.invokespecial 20, 3) := by decide +kernel
theorem dX6_init_23 : decode cX6_init 23 = .ok (.putfield 21, 3) := by decide +kernel
theorem dX6_init_26 : decode cX6_init 26 = .ok (.aload_n 0, 1) := by decide +kernel
theorem dX6_init_27 : decode cX6_init 27 = .ok (.new 25, 3) := by decide +kernel
theorem dX6_init_30 : decode cX6_init 30 = .ok (.dup, 1) := by decide +kernel
theorem dX6_init_31 : decode cX6_init 31 = .ok (.invokespecial 27, 3) := by decide +kernel
theorem dX6_init_34 : decode cX6_init 34 = .ok (.putfield 28, 3) := by decide +kernel
theorem dX6_init_37 : decode cX6_init 37 = .ok (.aload_n 0, 1) := by decide +kernel
theorem dX6_init_38 : decode cX6_init 38 = .ok (.iconst 5, 1) := by decide +kernel
theorem dX6_init_39 : decode cX6_init 39 = .ok (.newarray .int, 2) := by decide +kernel
theorem dX6_init_41 : decode cX6_init 41 = .ok (.putfield 32, 3) := by decide +kernel
theorem dX6_init_44 : decode cX6_init 44 = .ok (.aload_n 0, 1) := by decide +kernel
theorem dX6_init_45 : decode cX6_init 45 = .ok (.iconst 5, 1) := by decide +kernel
theorem dX6_init_46 : decode cX6_init 46 = .ok (.newarray .int, 2) := by decide +kernel
theorem dX6_init_48 : decode cX6_init 48 = .ok (.putfield 36, 3) := by decide +kernel
theorem dX6_init_51 : decode cX6_init 51 = .ok (.aload_n 0, 1) := by decide +kernel
theorem dX6_init_52 : decode cX6_init 52 = .ok (.sipush 16000, 3) := by decide +kernel
theorem dX6_init_55 : decode cX6_init 55 = .ok (.putfield 39, 3) := by decide +kernel
theorem dX6_init_58 : decode cX6_init 58 = .ok (.aload_n 0, 1) := by decide +kernel
theorem dX6_init_59 : decode cX6_init 59 = .ok (.getfield 32, 3) := by decide +kernel
theorem dX6_init_62 : decode cX6_init 62 = .ok (.iconst 4, 1) := by decide +kernel
theorem dX6_init_63 : decode cX6_init 63 = .ok (.bipush 16, 2) := by decide +kernel
theorem dX6_init_65 : decode cX6_init 65 = .ok (.iastore, 1) := by decide +kernel
theorem dX6_init_66 : decode cX6_init 66 = .ok (.return_, 1) := by decide +kernel
theorem dX6_isRow_0 : decode cX6_isRow 0 = .ok (.iload_n 0, 1) := by decide +kernel
theorem dX6_isRow_1 : decode cX6_isRow 1 = .ok (.ifCond .lt 12, 3) := by decide +kernel
theorem dX6_isRow_4 : decode cX6_isRow 4 = .ok (.iload_n 0, 1) := by decide +kernel
theorem dX6_isRow_5 : decode cX6_isRow 5 = .ok (.iconst 5, 1) := by decide +kernel
theorem dX6_isRow_6 : decode cX6_isRow 6 = .ok (.if_icmp .ge 7, 3) := by decide +kernel
theorem dX6_isRow_9 : decode cX6_isRow 9 = .ok (.iconst 1, 1) := by decide +kernel
theorem dX6_isRow_10 : decode cX6_isRow 10 = .ok (.goto 4, 3) := by decide +kernel
theorem dX6_isRow_13 : decode cX6_isRow 13 = .ok (.iconst 0, 1) := by decide +kernel
theorem dX6_isRow_14 : decode cX6_isRow 14 = .ok (.ireturn, 1) := by decide +kernel
theorem dX6_delayOf_0 : decode cX6_delayOf 0 = .ok (.iload_n 1, 1) := by decide +kernel
theorem dX6_delayOf_1 : decode cX6_delayOf 1 = .ok (.invokestatic 43, 3) := by decide +kernel
theorem dX6_delayOf_4 : decode cX6_delayOf 4 = .ok (.ifCond .eq 12, 3) := by decide +kernel
theorem dX6_delayOf_7 : decode cX6_delayOf 7 = .ok (.aload_n 0, 1) := by decide +kernel
theorem dX6_delayOf_8 : decode cX6_delayOf 8 = .ok (.getfield 32, 3) := by decide +kernel
theorem dX6_delayOf_11 : decode cX6_delayOf 11 = .ok (.iload_n 1, 1) := by decide +kernel
theorem dX6_delayOf_12 : decode cX6_delayOf 12 = .ok (.iaload, 1) := by decide +kernel
theorem dX6_delayOf_13 : decode cX6_delayOf 13 = .ok (.goto 4, 3) := by decide +kernel
theorem dX6_delayOf_16 : decode cX6_delayOf 16 = .ok (.iconst 0, 1) := by decide +kernel
theorem dX6_delayOf_17 : decode cX6_delayOf 17 = .ok (.ireturn, 1) := by decide +kernel
theorem dX6_gainOf_0 : decode cX6_gainOf 0 = .ok (.iload_n 1, 1) := by decide +kernel
theorem dX6_gainOf_1 : decode cX6_gainOf 1 = .ok (.invokestatic 43, 3) := by decide +kernel
theorem dX6_gainOf_4 : decode cX6_gainOf 4 = .ok (.ifCond .eq 12, 3) := by decide +kernel
theorem dX6_gainOf_7 : decode cX6_gainOf 7 = .ok (.aload_n 0, 1) := by decide +kernel
theorem dX6_gainOf_8 : decode cX6_gainOf 8 = .ok (.getfield 36, 3) := by decide +kernel
theorem dX6_gainOf_11 : decode cX6_gainOf 11 = .ok (.iload_n 1, 1) := by decide +kernel
theorem dX6_gainOf_12 : decode cX6_gainOf 12 = .ok (.iaload, 1) := by decide +kernel
theorem dX6_gainOf_13 : decode cX6_gainOf 13 = .ok (.goto 4, 3) := by decide +kernel
theorem dX6_gainOf_16 : decode cX6_gainOf 16 = .ok (.iconst 0, 1) := by decide +kernel
theorem dX6_gainOf_17 : decode cX6_gainOf 17 = .ok (.ireturn, 1) := by decide +kernel
theorem dX6_putRow_0 : decode cX6_putRow 0 = .ok (.iload_n 1, 1) := by decide +kernel
theorem dX6_putRow_1 : decode cX6_putRow 1 = .ok (.invokestatic 43, 3) := by decide +kernel
theorem dX6_putRow_4 : decode cX6_putRow 4 = .ok (.ifCond .eq 17, 3) := by decide +kernel
theorem dX6_putRow_7 : decode cX6_putRow 7 = .ok (.aload_n 0, 1) := by decide +kernel
theorem dX6_putRow_8 : decode cX6_putRow 8 = .ok (.getfield 32, 3) := by decide +kernel
theorem dX6_putRow_11 : decode cX6_putRow 11 = .ok (.iload_n 1, 1) := by decide +kernel
theorem dX6_putRow_12 : decode cX6_putRow 12 = .ok (.iload_n 2, 1) := by decide +kernel
theorem dX6_putRow_13 : decode cX6_putRow 13 = .ok (.iastore, 1) := by decide +kernel
theorem dX6_putRow_14 : decode cX6_putRow 14 = .ok (.aload_n 0, 1) := by decide +kernel
theorem dX6_putRow_15 : decode cX6_putRow 15 = .ok (.getfield 36, 3) := by decide +kernel
theorem dX6_putRow_18 : decode cX6_putRow 18 = .ok (.iload_n 1, 1) := by decide +kernel
theorem dX6_putRow_19 : decode cX6_putRow 19 = .ok (.iload_n 3, 1) := by decide +kernel
theorem dX6_putRow_20 : decode cX6_putRow 20 = .ok (.iastore, 1) := by decide +kernel
theorem dX6_putRow_21 : decode cX6_putRow 21 = .ok (.return_, 1) := by decide +kernel
theorem dX6_isOn_0 : decode cX6_isOn 0 = .ok (.aload_n 0, 1) := by decide +kernel
theorem dX6_isOn_1 : decode cX6_isOn 1 = .ok (.iload_n 1, 1) := by decide +kernel
theorem dX6_isOn_2 : decode cX6_isOn 2 = .ok (.invokevirtual 47, 3) := by decide +kernel
theorem dX6_isOn_5 : decode cX6_isOn 5 = .ok (.ifCond .eq 7, 3) := by decide +kernel
theorem dX6_isOn_8 : decode cX6_isOn 8 = .ok (.iconst 1, 1) := by decide +kernel
theorem dX6_isOn_9 : decode cX6_isOn 9 = .ok (.goto 4, 3) := by decide +kernel
theorem dX6_isOn_12 : decode cX6_isOn 12 = .ok (.iconst 0, 1) := by decide +kernel
theorem dX6_isOn_13 : decode cX6_isOn 13 = .ok (.ireturn, 1) := by decide +kernel
theorem dX6_isLost_0 : decode cX6_isLost 0 = .ok (.aload_n 0, 1) := by decide +kernel
theorem dX6_isLost_1 : decode cX6_isLost 1 = .ok (.iload_n 1, 1) := by decide +kernel
theorem dX6_isLost_2 : decode cX6_isLost 2 = .ok (.invokevirtual 47, 3) := by decide +kernel
theorem dX6_isLost_5 : decode cX6_isLost 5 = .ok (.aload_n 0, 1) := by decide +kernel
theorem dX6_isLost_6 : decode cX6_isLost 6 = .ok (.getfield 12, 3) := by decide +kernel
theorem dX6_isLost_9 : decode cX6_isLost 9 = .ok (.getfield 51, 3) := by decide +kernel
theorem dX6_isLost_12 : decode cX6_isLost 12 = .ok (.if_icmp .le 7, 3) := by decide +kernel
theorem dX6_isLost_15 : decode cX6_isLost 15 = .ok (.iconst 1, 1) := by decide +kernel
theorem dX6_isLost_16 : decode cX6_isLost 16 = .ok (.goto 4, 3) := by decide +kernel
theorem dX6_isLost_19 : decode cX6_isLost 19 = .ok (.iconst 0, 1) := by decide +kernel
theorem dX6_isLost_20 : decode cX6_isLost 20 = .ok (.ireturn, 1) := by decide +kernel
theorem dX6_readingOf_0 : decode cX6_readingOf 0 = .ok (.iload_n 1, 1) := by decide +kernel
theorem dX6_readingOf_1 : decode cX6_readingOf 1 = .ok (.invokestatic 43, 3) := by decide +kernel
theorem dX6_readingOf_4 : decode cX6_readingOf 4 = .ok (.ifCond .eq 21, 3) := by decide +kernel
theorem dX6_readingOf_7 : decode cX6_readingOf 7 = .ok (.aload_n 0, 1) := by decide +kernel
theorem dX6_readingOf_8 : decode cX6_readingOf 8 = .ok (.getfield 12, 3) := by decide +kernel
theorem dX6_readingOf_11 : decode cX6_readingOf 11 = .ok (.aload_n 0, 1) := by decide +kernel
theorem dX6_readingOf_12 : decode cX6_readingOf 12 = .ok (.getfield 32, 3) := by decide +kernel
theorem dX6_readingOf_15 : decode cX6_readingOf 15 = .ok (.iload_n 1, 1) := by decide +kernel
theorem dX6_readingOf_16 : decode cX6_readingOf 16 = .ok (.iaload, 1) := by decide +kernel
theorem dX6_readingOf_17 : decode cX6_readingOf 17 = .ok (.iconst 1, 1) := by decide +kernel
theorem dX6_readingOf_18 : decode cX6_readingOf 18 = .ok (.isub, 1) := by decide +kernel
theorem dX6_readingOf_19 : decode cX6_readingOf 19 = .ok (.invokevirtual 54, 3) := by decide +kernel
theorem dX6_readingOf_22 : decode cX6_readingOf 22 = .ok (.goto 4, 3) := by decide +kernel
theorem dX6_readingOf_25 : decode cX6_readingOf 25 = .ok (.iconst 0, 1) := by decide +kernel
theorem dX6_readingOf_26 : decode cX6_readingOf 26 = .ok (.ireturn, 1) := by decide +kernel
theorem dX6_shareOf_0 : decode cX6_shareOf 0 = .ok (.iload_n 1, 1) := by decide +kernel
theorem dX6_shareOf_1 : decode cX6_shareOf 1 = .ok (.invokestatic 43, 3) := by decide +kernel
theorem dX6_shareOf_4 : decode cX6_shareOf 4 = .ok (.ifCond .eq 20, 3) := by decide +kernel
theorem dX6_shareOf_7 : decode cX6_shareOf 7 = .ok (.aload_n 0, 1) := by decide +kernel
theorem dX6_shareOf_8 : decode cX6_shareOf 8 = .ok (.getfield 36, 3) := by decide +kernel
theorem dX6_shareOf_11 : decode cX6_shareOf 11 = .ok (.iload_n 1, 1) := by decide +kernel
theorem dX6_shareOf_12 : decode cX6_shareOf 12 = .ok (.iaload, 1) := by decide +kernel
theorem dX6_shareOf_13 : decode cX6_shareOf 13 = .ok (.aload_n 0, 1) := by decide +kernel
theorem dX6_shareOf_14 : decode cX6_shareOf 14 = .ok (.iload_n 1, 1) := by decide +kernel
theorem dX6_shareOf_15 : decode cX6_shareOf 15 = .ok (.invokevirtual 57, 3) := by decide +kernel
theorem dX6_shareOf_18 : decode cX6_shareOf 18 = .ok (.invokestatic 60, 3) := by decide +kernel
theorem dX6_shareOf_21 : decode cX6_shareOf 21 = .ok (.goto 4, 3) := by decide +kernel
theorem dX6_shareOf_24 : decode cX6_shareOf 24 = .ok (.iconst 0, 1) := by decide +kernel
theorem dX6_shareOf_25 : decode cX6_shareOf 25 = .ok (.ireturn, 1) := by decide +kernel
theorem dX6_letThrough_0 : decode cX6_letThrough 0 = .ok (.iload_n 1, 1) := by decide +kernel
theorem dX6_letThrough_1 : decode cX6_letThrough 1 = .ok (.istore_n 2, 1) := by decide +kernel
theorem dX6_letThrough_2 : decode cX6_letThrough 2 = .ok (.iconst 0, 1) := by decide +kernel
theorem dX6_letThrough_3 : decode cX6_letThrough 3 = .ok (.istore_n 3, 1) := by decide +kernel
theorem dX6_letThrough_4 : decode cX6_letThrough 4 = .ok (.iload_n 3, 1) := by decide +kernel
theorem dX6_letThrough_5 : decode cX6_letThrough 5 = .ok (.iconst 4, 1) := by decide +kernel
theorem dX6_letThrough_6 : decode cX6_letThrough 6 = .ok (.if_icmp .ge 17, 3) := by decide +kernel
theorem dX6_letThrough_9 : decode cX6_letThrough 9 = .ok (.iload_n 2, 1) := by decide +kernel
theorem dX6_letThrough_10 : decode cX6_letThrough 10 = .ok (.aload_n 0, 1) := by decide +kernel
theorem dX6_letThrough_11 : decode cX6_letThrough 11 = .ok (.iload_n 3, 1) := by decide +kernel
theorem dX6_letThrough_12 : decode cX6_letThrough 12 = .ok (.invokevirtual 64, 3) := by decide +kernel
theorem dX6_letThrough_15 : decode cX6_letThrough 15 = .ok (.iadd, 1) := by decide +kernel
theorem dX6_letThrough_16 : decode cX6_letThrough 16 = .ok (.istore_n 2, 1) := by decide +kernel
theorem dX6_letThrough_17 : decode cX6_letThrough 17 = .ok (.iinc 3 1, 3) := by decide +kernel
theorem dX6_letThrough_20 : decode cX6_letThrough 20 = .ok (.goto (-16), 3) := by decide +kernel
theorem dX6_letThrough_23 : decode cX6_letThrough 23 = .ok (.iload_n 1, 1) := by decide +kernel
theorem dX6_letThrough_24 : decode cX6_letThrough 24 = .ok (.aload_n 0, 1) := by decide +kernel
theorem dX6_letThrough_25 : decode cX6_letThrough 25 = .ok (.iconst 4, 1) := by decide +kernel
theorem dX6_letThrough_26 : decode cX6_letThrough 26 = .ok (.invokevirtual 64, 3) := by decide +kernel
theorem dX6_letThrough_29 : decode cX6_letThrough 29 = .ok (.iadd, 1) := by decide +kernel
theorem dX6_letThrough_30 : decode cX6_letThrough 30 = .ok (.istore_n 3, 1) := by decide +kernel
theorem dX6_letThrough_31 : decode cX6_letThrough 31 = .ok (.iload_n 2, 1) := by decide +kernel
theorem dX6_letThrough_32 : decode cX6_letThrough 32 = .ok (.aload_n 0, 1) := by decide +kernel
theorem dX6_letThrough_33 : decode cX6_letThrough 33 = .ok (.getfield 67, 3) := by decide +kernel
theorem dX6_letThrough_36 : decode cX6_letThrough 36 = .ok (.aload_n 0, 1) := by decide +kernel
theorem dX6_letThrough_37 : decode cX6_letThrough 37 = .ok (.getfield 39, 3) := by decide +kernel
theorem dX6_letThrough_40 : decode cX6_letThrough 40 = .ok (.invokestatic 70, 3) := by decide +kernel
theorem dX6_letThrough_43 : decode cX6_letThrough 43 = .ok (.istore 4, 2) := by decide +kernel
theorem dX6_letThrough_45 : decode cX6_letThrough 45 = .ok (.iload_n 3, 1) := by decide +kernel
theorem dX6_letThrough_46 : decode cX6_letThrough 46 = .ok (.aload_n 0, 1) := by decide +kernel
theorem dX6_letThrough_47 : decode cX6_letThrough 47 = .ok (.getfield 67, 3) := by decide +kernel
theorem dX6_letThrough_50 : decode cX6_letThrough 50 = .ok (.aload_n 0, 1) := by decide +kernel
theorem dX6_letThrough_51 : decode cX6_letThrough 51 = .ok (.getfield 39, 3) := by decide +kernel
theorem dX6_letThrough_54 : decode cX6_letThrough 54 = .ok (.invokestatic 70, 3) := by decide +kernel
theorem dX6_letThrough_57 : decode cX6_letThrough 57 = .ok (.istore 5, 2) := by decide +kernel
theorem dX6_letThrough_59 : decode cX6_letThrough 59 = .ok (.aload_n 0, 1) := by decide +kernel
theorem dX6_letThrough_60 : decode cX6_letThrough 60 = .ok (.getfield 12, 3) := by decide +kernel
theorem dX6_letThrough_63 : decode cX6_letThrough 63 = .ok (.iload 5, 2) := by decide +kernel
theorem dX6_letThrough_65 : decode cX6_letThrough 65 = .ok (.invokevirtual 74, 3) := by decide +kernel
theorem dX6_letThrough_68 : decode cX6_letThrough 68 = .ok (.aload_n 0, 1) := by decide +kernel
theorem dX6_letThrough_69 : decode cX6_letThrough 69 = .ok (.getfield 21, 3) := by decide +kernel
theorem dX6_letThrough_72 : decode cX6_letThrough 72 = .ok (.iload 4, 2) := by decide +kernel
theorem dX6_letThrough_74 : decode cX6_letThrough 74 = .ok (.invokevirtual 78, 3) := by decide +kernel
theorem dX6_letThrough_77 : decode cX6_letThrough 77 = .ok (.aload_n 0, 1) := by decide +kernel
theorem dX6_letThrough_78 : decode cX6_letThrough 78 = .ok (.getfield 28, 3) := by decide +kernel
theorem dX6_letThrough_81 : decode cX6_letThrough 81 = .ok (.iload 4, 2) := by decide +kernel
theorem dX6_letThrough_83 : decode cX6_letThrough 83 = .ok (.iload 4, 2) := by decide +kernel
theorem dX6_letThrough_85 : decode cX6_letThrough 85 = .ok (.iload_n 2, 1) := by decide +kernel
theorem dX6_letThrough_86 : decode cX6_letThrough 86 = .ok (.if_icmp .eq 7, 3) := by decide +kernel
theorem dX6_letThrough_89 : decode cX6_letThrough 89 = .ok (.iconst 1, 1) := by decide +kernel
theorem dX6_letThrough_90 : decode cX6_letThrough 90 = .ok (.goto 4, 3) := by decide +kernel
theorem dX6_letThrough_93 : decode cX6_letThrough 93 = .ok (.iconst 0, 1) := by decide +kernel
theorem dX6_letThrough_94 : decode cX6_letThrough 94 = .ok (.iload 5, 2) := by decide +kernel
theorem dX6_letThrough_96 : decode cX6_letThrough 96 = .ok (.iload_n 3, 1) := by decide +kernel
theorem dX6_letThrough_97 : decode cX6_letThrough 97 = .ok (.if_icmp .eq 7, 3) := by decide +kernel
theorem dX6_letThrough_100 : decode cX6_letThrough 100 = .ok (.iconst 1, 1) := by decide +kernel
theorem dX6_letThrough_101 : decode cX6_letThrough 101 = .ok (.goto 4, 3) := by decide +kernel
theorem dX6_letThrough_104 : decode cX6_letThrough 104 = .ok (.iconst 0, 1) := by decide +kernel
theorem dX6_letThrough_105 : decode cX6_letThrough 105 = .ok (.invokevirtual 81, 3) := by decide +kernel
theorem dX6_letThrough_108 : decode cX6_letThrough 108 = .ok (.iload 4, 2) := by decide +kernel
theorem dX6_letThrough_110 : decode cX6_letThrough 110 = .ok (.ireturn, 1) := by decide +kernel
theorem dX6_wordsOfProgram_0 : decode cX6_wordsOfProgram 0 = .ok (.bipush 64, 2) := by decide +kernel
theorem dX6_wordsOfProgram_2 : decode cX6_wordsOfProgram 2 = .ok (.aload_n 0, 1) := by decide +kernel
theorem dX6_wordsOfProgram_3 : decode cX6_wordsOfProgram 3 = .ok (.getfield 12, 3) := by decide +kernel
theorem dX6_wordsOfProgram_6 : decode cX6_wordsOfProgram 6 = .ok (.getfield 51, 3) := by decide +kernel
theorem dX6_wordsOfProgram_9 : decode cX6_wordsOfProgram 9 = .ok (.isub, 1) := by decide +kernel
theorem dX6_wordsOfProgram_10 : decode cX6_wordsOfProgram 10 = .ok (.ireturn, 1) := by decide +kernel
theorem dX6_takeWords_0 : decode cX6_takeWords 0 = .ok (.aload_n 0, 1) := by decide +kernel
theorem dX6_takeWords_1 : decode cX6_takeWords 1 = .ok (.getfield 12, 3) := by decide +kernel
theorem dX6_takeWords_4 : decode cX6_takeWords 4 = .ok (.iload_n 1, 1) := by decide +kernel
theorem dX6_takeWords_5 : decode cX6_takeWords 5 = .ok (.invokevirtual 95, 3) := by decide +kernel
theorem dX6_takeWords_8 : decode cX6_takeWords 8 = .ok (.aload_n 0, 1) := by decide +kernel
theorem dX6_takeWords_9 : decode cX6_takeWords 9 = .ok (.dup, 1) := by decide +kernel
theorem dX6_takeWords_10 : decode cX6_takeWords 10 = .ok (.getfield 98, 3) := by decide +kernel
theorem dX6_takeWords_13 : decode cX6_takeWords 13 = .ok (.iload_n 1, 1) := by decide +kernel
theorem dX6_takeWords_14 : decode cX6_takeWords 14 = .ok (.iadd, 1) := by decide +kernel
theorem dX6_takeWords_15 : decode cX6_takeWords 15 = .ok (.putfield 98, 3) := by decide +kernel
theorem dX6_takeWords_18 : decode cX6_takeWords 18 = .ok (.return_, 1) := by decide +kernel
theorem dX6_putSetting_0 : decode cX6_putSetting 0 = .ok (.iload_n 1, 1) := by decide +kernel
theorem dX6_putSetting_1 : decode cX6_putSetting 1 = .ok (.ifCond .ne 10, 3) := by decide +kernel
theorem dX6_putSetting_4 : decode cX6_putSetting 4 = .ok (.aload_n 0, 1) := by decide +kernel
theorem dX6_putSetting_5 : decode cX6_putSetting 5 = .ok (.getfield 39, 3) := by decide +kernel
theorem dX6_putSetting_8 : decode cX6_putSetting 8 = .ok (.goto 7, 3) := by decide +kernel
theorem dX6_putSetting_11 : decode cX6_putSetting 11 = .ok (.aload_n 0, 1) := by decide +kernel
theorem dX6_putSetting_12 : decode cX6_putSetting 12 = .ok (.getfield 67, 3) := by decide +kernel
theorem dX6_putSetting_15 : decode cX6_putSetting 15 = .ok (.istore_n 3, 1) := by decide +kernel
theorem dX6_putSetting_16 : decode cX6_putSetting 16 = .ok (.iload_n 1, 1) := by decide +kernel
theorem dX6_putSetting_17 : decode cX6_putSetting 17 = .ok (.ifCond .ne 11, 3) := by decide +kernel
theorem dX6_putSetting_20 : decode cX6_putSetting 20 = .ok (.aload_n 0, 1) := by decide +kernel
theorem dX6_putSetting_21 : decode cX6_putSetting 21 = .ok (.iload_n 2, 1) := by decide +kernel
theorem dX6_putSetting_22 : decode cX6_putSetting 22 = .ok (.putfield 39, 3) := by decide +kernel
theorem dX6_putSetting_25 : decode cX6_putSetting 25 = .ok (.goto 8, 3) := by decide +kernel
theorem dX6_putSetting_28 : decode cX6_putSetting 28 = .ok (.aload_n 0, 1) := by decide +kernel
theorem dX6_putSetting_29 : decode cX6_putSetting 29 = .ok (.iload_n 2, 1) := by decide +kernel
theorem dX6_putSetting_30 : decode cX6_putSetting 30 = .ok (.putfield 67, 3) := by decide +kernel
theorem dX6_putSetting_33 : decode cX6_putSetting 33 = .ok (.iload_n 3, 1) := by decide +kernel
theorem dX6_putSetting_34 : decode cX6_putSetting 34 = .ok (.ireturn, 1) := by decide +kernel
theorem dX6_takeOver_0 : decode cX6_takeOver 0 = .ok (.aload_n 0, 1) := by decide +kernel
theorem dX6_takeOver_1 : decode cX6_takeOver 1 = .ok (.getfield 12, 3) := by decide +kernel
theorem dX6_takeOver_4 : decode cX6_takeOver 4 = .ok (.aload_n 1, 1) := by decide +kernel
theorem dX6_takeOver_5 : decode cX6_takeOver 5 = .ok (.getfield 12, 3) := by decide +kernel
theorem dX6_takeOver_8 : decode cX6_takeOver 8 = .ok (.invokevirtual 101, 3) := by decide +kernel
theorem dX6_takeOver_11 : decode cX6_takeOver 11 = .ok (.aload_n 0, 1) := by decide +kernel
theorem dX6_takeOver_12 : decode cX6_takeOver 12 = .ok (.getfield 21, 3) := by decide +kernel
theorem dX6_takeOver_15 : decode cX6_takeOver 15 = .ok (.aload_n 1, 1) := by decide +kernel
theorem dX6_takeOver_16 : decode cX6_takeOver 16 = .ok (.getfield 21, 3) := by decide +kernel
theorem dX6_takeOver_19 : decode cX6_takeOver 19 = .ok (.invokevirtual 105, 3) := by decide +kernel
theorem dX6_takeOver_22 : decode cX6_takeOver 22 = .ok (.aload_n 0, 1) := by decide +kernel
theorem dX6_takeOver_23 : decode cX6_takeOver 23 = .ok (.getfield 28, 3) := by decide +kernel
theorem dX6_takeOver_26 : decode cX6_takeOver 26 = .ok (.aload_n 1, 1) := by decide +kernel
theorem dX6_takeOver_27 : decode cX6_takeOver 27 = .ok (.getfield 28, 3) := by decide +kernel
theorem dX6_takeOver_30 : decode cX6_takeOver 30 = .ok (.invokevirtual 108, 3) := by decide +kernel
theorem dX6_takeOver_33 : decode cX6_takeOver 33 = .ok (.aload_n 1, 1) := by decide +kernel
theorem dX6_takeOver_34 : decode cX6_takeOver 34 = .ok (.getfield 32, 3) := by decide +kernel
theorem dX6_takeOver_37 : decode cX6_takeOver 37 = .ok (.iconst 0, 1) := by decide +kernel
theorem dX6_takeOver_38 : decode cX6_takeOver 38 = .ok (.aload_n 0, 1) := by decide +kernel
theorem dX6_takeOver_39 : decode cX6_takeOver 39 = .ok (.getfield 32, 3) := by decide +kernel
theorem dX6_takeOver_42 : decode cX6_takeOver 42 = .ok (.iconst 0, 1) := by decide +kernel
theorem dX6_takeOver_43 : decode cX6_takeOver 43 = .ok (.iconst 5, 1) := by decide +kernel
theorem dX6_takeOver_44 : decode cX6_takeOver 44 = .ok (.invokestatic 111, 3) := by decide +kernel
theorem dX6_takeOver_47 : decode cX6_takeOver 47 = .ok (.aload_n 1, 1) := by decide +kernel
theorem dX6_takeOver_48 : decode cX6_takeOver 48 = .ok (.getfield 36, 3) := by decide +kernel
theorem dX6_takeOver_51 : decode cX6_takeOver 51 = .ok (.iconst 0, 1) := by decide +kernel
theorem dX6_takeOver_52 : decode cX6_takeOver 52 = .ok (.aload_n 0, 1) := by decide +kernel
theorem dX6_takeOver_53 : decode cX6_takeOver 53 = .ok (.getfield 36, 3) := by decide +kernel
theorem dX6_takeOver_56 : decode cX6_takeOver 56 = .ok (.iconst 0, 1) := by decide +kernel
theorem dX6_takeOver_57 : decode cX6_takeOver 57 = .ok (.iconst 5, 1) := by decide +kernel
theorem dX6_takeOver_58 : decode cX6_takeOver 58 = .ok (.invokestatic 111, 3) := by decide +kernel
theorem dX6_takeOver_61 : decode cX6_takeOver 61 = .ok (.aload_n 0, 1) := by decide +kernel
theorem dX6_takeOver_62 : decode cX6_takeOver 62 = .ok (.aload_n 1, 1) := by decide +kernel
theorem dX6_takeOver_63 : decode cX6_takeOver 63 = .ok (.getfield 39, 3) := by decide +kernel
theorem dX6_takeOver_66 : decode cX6_takeOver 66 = .ok (.putfield 39, 3) := by decide +kernel
theorem dX6_takeOver_69 : decode cX6_takeOver 69 = .ok (.aload_n 0, 1) := by decide +kernel
theorem dX6_takeOver_70 : decode cX6_takeOver 70 = .ok (.aload_n 1, 1) := by decide +kernel
theorem dX6_takeOver_71 : decode cX6_takeOver 71 = .ok (.getfield 67, 3) := by decide +kernel
theorem dX6_takeOver_74 : decode cX6_takeOver 74 = .ok (.putfield 67, 3) := by decide +kernel
theorem dX6_takeOver_77 : decode cX6_takeOver 77 = .ok (.aload_n 0, 1) := by decide +kernel
theorem dX6_takeOver_78 : decode cX6_takeOver 78 = .ok (.aload_n 1, 1) := by decide +kernel
theorem dX6_takeOver_79 : decode cX6_takeOver 79 = .ok (.getfield 98, 3) := by decide +kernel
theorem dX6_takeOver_82 : decode cX6_takeOver 82 = .ok (.putfield 98, 3) := by decide +kernel
theorem dX6_takeOver_85 : decode cX6_takeOver 85 = .ok (.return_, 1) := by decide +kernel
theorem dX7_init_0 : decode cX7_init 0 = .ok (.aload_n 0, 1) := by decide +kernel
theorem dX7_init_1 : decode cX7_init 1 = .ok (.invokespecial 3, 3) := by decide +kernel
theorem dX7_init_4 : decode cX7_init 4 = .ok (.aload_n 0, 1) := by decide +kernel
theorem dX7_init_5 : decode cX7_init 5 = .ok (.bipush 60, 2) := by decide +kernel
theorem dX7_init_7 : decode cX7_init 7 = .ok (.newarray .int, 2) := by decide +kernel
theorem dX7_init_9 : decode cX7_init 9 = .ok (.putfield 9, 3) := by decide +kernel
theorem dX7_init_12 : decode cX7_init 12 = .ok (.return_, 1) := by decide +kernel
theorem dX8_init_0 : decode cX8_init 0 = .ok (.aload_n 0, 1) := by decide +kernel
theorem dX8_init_1 : decode cX8_init 1 = .ok (.invokespecial 1, 3) := by decide +kernel
theorem dX8_init_4 : decode cX8_init 4 = .ok (.aload_n 0, 1) := by decide +kernel
theorem dX8_init_5 : decode cX8_init 5 = .ok (.new 7, 3) := by decide +kernel
theorem dX8_init_8 : decode cX8_init 8 = .ok (.dup, 1) := by decide +kernel
theorem dX8_init_9 : decode cX8_init 9 = .ok (.invokespecial 9, 3) := by decide +kernel
theorem dX8_init_12 : decode cX8_init 12 = .ok (.putfield 10, 3) := by decide +kernel
theorem dX8_init_15 : decode cX8_init 15 = .ok (.aload_n 0, 1) := by decide +kernel
theorem dX8_init_16 : decode cX8_init 16 = .ok (.new 7, 3) := by decide +kernel
theorem dX8_init_19 : decode cX8_init 19 = .ok (.dup, 1) := by decide +kernel
theorem dX8_init_20 : decode cX8_init 20 = .ok (.invokespecial 9, 3) := by decide +kernel
theorem dX8_init_23 : decode cX8_init 23 = .ok (.putfield 16, 3) := by decide +kernel
theorem dX8_init_26 : decode cX8_init 26 = .ok (.aload_n 0, 1) := by decide +kernel
theorem dX8_init_27 : decode cX8_init 27 = .ok (.new 19, 3) := by decide +kernel
theorem dX8_init_30 : decode cX8_init 30 = .ok (.dup, 1) := by decide +kernel
theorem dX8_init_31 : decode cX8_init 31 = .ok (.invokespecial 21, 3) := by decide +kernel
theorem dX8_init_34 : decode cX8_init 34 = .ok (.putfield 22, 3) := by decide +kernel
theorem dX8_init_37 : decode cX8_init 37 = .ok (.aload_n 0, 1) := by decide +kernel
theorem dX8_init_38 : decode cX8_init 38 = .ok (.new 26, 3) := by decide +kernel
theorem dX8_init_41 : decode cX8_init 41 = .ok (.dup, 1) := by decide +kernel
theorem dX8_init_42 : decode cX8_init 42 = .ok (.invokespecial 28, 3) := by decide +kernel
theorem dX8_init_45 : decode cX8_init 45 = .ok (.putfield 29, 3) := by decide +kernel
theorem dX8_init_48 : decode cX8_init 48 = .ok (.aload_n 0, 1) := by decide +kernel
theorem dX8_init_49 : decode cX8_init 49 = .ok (.new 33, 3) := by decide +kernel
theorem dX8_init_52 : decode cX8_init 52 = .ok (.dup, 1) := by decide +kernel
theorem dX8_init_53 : decode cX8_init 53 = .ok (.invokespecial 35, 3) := by decide +kernel
theorem dX8_init_56 : decode cX8_init 56 = .ok (.putfield 36, 3) := by decide +kernel
theorem dX8_init_59 : decode cX8_init 59 = .ok (.aload_n 0, 1) := by decide +kernel
theorem dX8_init_60 : decode cX8_init 60 = .ok (.new 40, 3) := by decide +kernel
theorem dX8_init_63 : decode cX8_init 63 = .ok (.dup, 1) := by decide +kernel
theorem dX8_init_64 : decode cX8_init 64 = .ok (.invokespecial 42, 3) := by decide +kernel
theorem dX8_init_67 : decode cX8_init 67 = .ok (.putfield 43, 3) := by decide +kernel
theorem dX8_init_70 : decode cX8_init 70 = .ok (.return_, 1) := by decide +kernel
theorem dX8_sample_0 : decode cX8_sample 0 = .ok (.iload_n 1, 1) := by decide +kernel
theorem dX8_sample_1 : decode cX8_sample 1 = .ok (.invokestatic 47, 3) := by decide +kernel
theorem dX8_sample_4 : decode cX8_sample 4 = .ok (.istore_n 2, 1) := by decide +kernel
theorem dX8_sample_5 : decode cX8_sample 5 = .ok (.iload_n 2, 1) := by decide +kernel
theorem dX8_sample_6 : decode cX8_sample 6 = .ok (.ifCond .eq 5, 3) := by decide +kernel
theorem dX8_sample_9 : decode cX8_sample 9 = .ok (.iload_n 2, 1) := by decide +kernel
theorem dX8_sample_10 : decode cX8_sample 10 = .ok (.ireturn, 1) := by decide +kernel
theorem dX8_sample_11 : decode cX8_sample 11 = .ok (.aload_n 0, 1) := by decide +kernel
theorem dX8_sample_12 : decode cX8_sample 12 = .ok (.getfield 22, 3) := by decide +kernel
theorem dX8_sample_15 : decode cX8_sample 15 = .ok (.aload_n 0, 1) := by decide +kernel
theorem dX8_sample_16 : decode cX8_sample 16 = .ok (.getfield 10, 3) := by decide +kernel
theorem dX8_sample_19 : decode cX8_sample 19 = .ok (.invokevirtual 51, 3) := by decide +kernel
theorem dX8_sample_22 : decode cX8_sample 22 = .ok (.aload_n 0, 1) := by decide +kernel
theorem dX8_sample_23 : decode cX8_sample 23 = .ok (.getfield 10, 3) := by decide +kernel
theorem dX8_sample_26 : decode cX8_sample 26 = .ok (.iload_n 1, 1) := by decide +kernel
theorem dX8_sample_27 : decode cX8_sample 27 = .ok (.invokevirtual 55, 3) := by decide +kernel
theorem dX8_sample_30 : decode cX8_sample 30 = .ok (.ireturn, 1) := by decide +kernel
theorem dX8_tap_0 : decode cX8_tap 0 = .ok (.iload_n 1, 1) := by decide +kernel
theorem dX8_tap_1 : decode cX8_tap 1 = .ok (.iload_n 2, 1) := by decide +kernel
theorem dX8_tap_2 : decode cX8_tap 2 = .ok (.iload_n 3, 1) := by decide +kernel
theorem dX8_tap_3 : decode cX8_tap 3 = .ok (.invokestatic 64, 3) := by decide +kernel
theorem dX8_tap_6 : decode cX8_tap 6 = .ok (.istore 4, 2) := by decide +kernel
theorem dX8_tap_8 : decode cX8_tap 8 = .ok (.iload 4, 2) := by decide +kernel
theorem dX8_tap_10 : decode cX8_tap 10 = .ok (.ifCond .eq 6, 3) := by decide +kernel
theorem dX8_tap_13 : decode cX8_tap 13 = .ok (.iload 4, 2) := by decide +kernel
theorem dX8_tap_15 : decode cX8_tap 15 = .ok (.ireturn, 1) := by decide +kernel
theorem dX8_tap_16 : decode cX8_tap 16 = .ok (.aload_n 0, 1) := by decide +kernel
theorem dX8_tap_17 : decode cX8_tap 17 = .ok (.getfield 22, 3) := by decide +kernel
theorem dX8_tap_20 : decode cX8_tap 20 = .ok (.aload_n 0, 1) := by decide +kernel
theorem dX8_tap_21 : decode cX8_tap 21 = .ok (.getfield 10, 3) := by decide +kernel
theorem dX8_tap_24 : decode cX8_tap 24 = .ok (.invokevirtual 51, 3) := by decide +kernel
theorem dX8_tap_27 : decode cX8_tap 27 = .ok (.aload_n 0, 1) := by decide +kernel
theorem dX8_tap_28 : decode cX8_tap 28 = .ok (.getfield 10, 3) := by decide +kernel
theorem dX8_tap_31 : decode cX8_tap 31 = .ok (.iload_n 1, 1) := by decide +kernel
theorem dX8_tap_32 : decode cX8_tap 32 = .ok (.iload_n 2, 1) := by decide +kernel
theorem dX8_tap_33 : decode cX8_tap 33 = .ok (.iload_n 3, 1) := by decide +kernel
theorem dX8_tap_34 : decode cX8_tap 34 = .ok (.invokevirtual 68, 3) := by decide +kernel
theorem dX8_tap_37 : decode cX8_tap 37 = .ok (.aload_n 0, 1) := by decide +kernel
theorem dX8_tap_38 : decode cX8_tap 38 = .ok (.getfield 10, 3) := by decide +kernel
theorem dX8_tap_41 : decode cX8_tap 41 = .ok (.iload_n 1, 1) := by decide +kernel
theorem dX8_tap_42 : decode cX8_tap 42 = .ok (.invokevirtual 72, 3) := by decide +kernel
theorem dX8_tap_45 : decode cX8_tap 45 = .ok (.ifCond .eq 7, 3) := by decide +kernel
theorem dX8_tap_48 : decode cX8_tap 48 = .ok (.iconst 1, 1) := by decide +kernel
theorem dX8_tap_49 : decode cX8_tap 49 = .ok (.goto 4, 3) := by decide +kernel
theorem dX8_tap_52 : decode cX8_tap 52 = .ok (.iconst 0, 1) := by decide +kernel
theorem dX8_tap_53 : decode cX8_tap 53 = .ok (.ireturn, 1) := by decide +kernel
theorem dX8_off_0 : decode cX8_off 0 = .ok (.iload_n 1, 1) := by decide +kernel
theorem dX8_off_1 : decode cX8_off 1 = .ok (.invokestatic 76, 3) := by decide +kernel
theorem dX8_off_4 : decode cX8_off 4 = .ok (.ifCond .ne 6, 3) := by decide +kernel
theorem dX8_off_7 : decode cX8_off 7 = .ok (.ldc 79, 2) := by decide +kernel
theorem dX8_off_9 : decode cX8_off 9 = .ok (.ireturn, 1) := by decide +kernel
theorem dX8_off_10 : decode cX8_off 10 = .ok (.aload_n 0, 1) := by decide +kernel
theorem dX8_off_11 : decode cX8_off 11 = .ok (.getfield 10, 3) := by decide +kernel
theorem dX8_off_14 : decode cX8_off 14 = .ok (.iload_n 1, 1) := by decide +kernel
theorem dX8_off_15 : decode cX8_off 15 = .ok (.invokevirtual 80, 3) := by decide +kernel
theorem dX8_off_18 : decode cX8_off 18 = .ok (.ifCond .ne 6, 3) := by decide +kernel
theorem dX8_off_21 : decode cX8_off 21 = .ok (.ldc 83, 2) := by decide +kernel
theorem dX8_off_23 : decode cX8_off 23 = .ok (.ireturn, 1) := by decide +kernel
theorem dX8_off_24 : decode cX8_off 24 = .ok (.aload_n 0, 1) := by decide +kernel
theorem dX8_off_25 : decode cX8_off 25 = .ok (.getfield 22, 3) := by decide +kernel
theorem dX8_off_28 : decode cX8_off 28 = .ok (.aload_n 0, 1) := by decide +kernel
theorem dX8_off_29 : decode cX8_off 29 = .ok (.getfield 10, 3) := by decide +kernel
theorem dX8_off_32 : decode cX8_off 32 = .ok (.invokevirtual 51, 3) := by decide +kernel
theorem dX8_off_35 : decode cX8_off 35 = .ok (.aload_n 0, 1) := by decide +kernel
theorem dX8_off_36 : decode cX8_off 36 = .ok (.getfield 10, 3) := by decide +kernel
theorem dX8_off_39 : decode cX8_off 39 = .ok (.iload_n 1, 1) := by decide +kernel
theorem dX8_off_40 : decode cX8_off 40 = .ok (.invokevirtual 84, 3) := by decide +kernel
theorem dX8_off_43 : decode cX8_off 43 = .ok (.istore_n 2, 1) := by decide +kernel
theorem dX8_off_44 : decode cX8_off 44 = .ok (.aload_n 0, 1) := by decide +kernel
theorem dX8_off_45 : decode cX8_off 45 = .ok (.getfield 10, 3) := by decide +kernel
theorem dX8_off_48 : decode cX8_off 48 = .ok (.iload_n 1, 1) := by decide +kernel
theorem dX8_off_49 : decode cX8_off 49 = .ok (.iconst 0, 1) := by decide +kernel
theorem dX8_off_50 : decode cX8_off 50 = .ok (.iconst 0, 1) := by decide +kernel
theorem dX8_off_51 : decode cX8_off 51 = .ok (.invokevirtual 68, 3) := by decide +kernel
theorem dX8_off_54 : decode cX8_off 54 = .ok (.iload_n 2, 1) := by decide +kernel
theorem dX8_off_55 : decode cX8_off 55 = .ok (.ireturn, 1) := by decide +kernel
theorem dX8_feedback_0 : decode cX8_feedback 0 = .ok (.iload_n 1, 1) := by decide +kernel
theorem dX8_feedback_1 : decode cX8_feedback 1 = .ok (.iload_n 2, 1) := by decide +kernel
theorem dX8_feedback_2 : decode cX8_feedback 2 = .ok (.invokestatic 87, 3) := by decide +kernel
theorem dX8_feedback_5 : decode cX8_feedback 5 = .ok (.istore_n 3, 1) := by decide +kernel
theorem dX8_feedback_6 : decode cX8_feedback 6 = .ok (.iload_n 3, 1) := by decide +kernel
theorem dX8_feedback_7 : decode cX8_feedback 7 = .ok (.ifCond .eq 5, 3) := by decide +kernel
theorem dX8_feedback_10 : decode cX8_feedback 10 = .ok (.iload_n 3, 1) := by decide +kernel
theorem dX8_feedback_11 : decode cX8_feedback 11 = .ok (.ireturn, 1) := by decide +kernel
theorem dX8_feedback_12 : decode cX8_feedback 12 = .ok (.aload_n 0, 1) := by decide +kernel
theorem dX8_feedback_13 : decode cX8_feedback 13 = .ok (.getfield 22, 3) := by decide +kernel
theorem dX8_feedback_16 : decode cX8_feedback 16 = .ok (.aload_n 0, 1) := by decide +kernel
theorem dX8_feedback_17 : decode cX8_feedback 17 = .ok (.getfield 10, 3) := by decide +kernel
theorem dX8_feedback_20 : decode cX8_feedback 20 = .ok (.invokevirtual 51, 3) := by decide +kernel
theorem dX8_feedback_23 : decode cX8_feedback 23 = .ok (.aload_n 0, 1) := by decide +kernel
theorem dX8_feedback_24 : decode cX8_feedback 24 = .ok (.getfield 10, 3) := by decide +kernel
theorem dX8_feedback_27 : decode cX8_feedback 27 = .ok (.iconst 4, 1) := by decide +kernel
theorem dX8_feedback_28 : decode cX8_feedback 28 = .ok (.invokevirtual 91, 3) := by decide +kernel
theorem dX8_feedback_31 : decode cX8_feedback 31 = .ok (.istore 4, 2) := by decide +kernel
theorem dX8_feedback_33 : decode cX8_feedback 33 = .ok (.aload_n 0, 1) := by decide +kernel
theorem dX8_feedback_34 : decode cX8_feedback 34 = .ok (.getfield 10, 3) := by decide +kernel
theorem dX8_feedback_37 : decode cX8_feedback 37 = .ok (.iconst 4, 1) := by decide +kernel
theorem dX8_feedback_38 : decode cX8_feedback 38 = .ok (.iload_n 1, 1) := by decide +kernel
theorem dX8_feedback_39 : decode cX8_feedback 39 = .ok (.iload_n 2, 1) := by decide +kernel
theorem dX8_feedback_40 : decode cX8_feedback 40 = .ok (.invokevirtual 68, 3) := by decide +kernel
theorem dX8_feedback_43 : decode cX8_feedback 43 = .ok (.iload 4, 2) := by decide +kernel
theorem dX8_feedback_45 : decode cX8_feedback 45 = .ok (.ireturn, 1) := by decide +kernel
theorem dX8_steal_0 : decode cX8_steal 0 = .ok (.iload_n 1, 1) := by decide +kernel
theorem dX8_steal_1 : decode cX8_steal 1 = .ok (.aload_n 0, 1) := by decide +kernel
theorem dX8_steal_2 : decode cX8_steal 2 = .ok (.getfield 10, 3) := by decide +kernel
theorem dX8_steal_5 : decode cX8_steal 5 = .ok (.invokevirtual 94, 3) := by decide +kernel
theorem dX8_steal_8 : decode cX8_steal 8 = .ok (.invokestatic 98, 3) := by decide +kernel
theorem dX8_steal_11 : decode cX8_steal 11 = .ok (.istore_n 2, 1) := by decide +kernel
theorem dX8_steal_12 : decode cX8_steal 12 = .ok (.iload_n 2, 1) := by decide +kernel
theorem dX8_steal_13 : decode cX8_steal 13 = .ok (.ifCond .eq 5, 3) := by decide +kernel
theorem dX8_steal_16 : decode cX8_steal 16 = .ok (.iload_n 2, 1) := by decide +kernel
theorem dX8_steal_17 : decode cX8_steal 17 = .ok (.ireturn, 1) := by decide +kernel
theorem dX8_steal_18 : decode cX8_steal 18 = .ok (.aload_n 0, 1) := by decide +kernel
theorem dX8_steal_19 : decode cX8_steal 19 = .ok (.getfield 22, 3) := by decide +kernel
theorem dX8_steal_22 : decode cX8_steal 22 = .ok (.aload_n 0, 1) := by decide +kernel
theorem dX8_steal_23 : decode cX8_steal 23 = .ok (.getfield 10, 3) := by decide +kernel
theorem dX8_steal_26 : decode cX8_steal 26 = .ok (.invokevirtual 51, 3) := by decide +kernel
theorem dX8_steal_29 : decode cX8_steal 29 = .ok (.aload_n 0, 1) := by decide +kernel
theorem dX8_steal_30 : decode cX8_steal 30 = .ok (.getfield 10, 3) := by decide +kernel
theorem dX8_steal_33 : decode cX8_steal 33 = .ok (.iload_n 1, 1) := by decide +kernel
theorem dX8_steal_34 : decode cX8_steal 34 = .ok (.invokevirtual 101, 3) := by decide +kernel
theorem dX8_steal_37 : decode cX8_steal 37 = .ok (.aload_n 0, 1) := by decide +kernel
theorem dX8_steal_38 : decode cX8_steal 38 = .ok (.getfield 10, 3) := by decide +kernel
theorem dX8_steal_41 : decode cX8_steal 41 = .ok (.getfield 105, 3) := by decide +kernel
theorem dX8_steal_44 : decode cX8_steal 44 = .ok (.getfield 109, 3) := by decide +kernel
theorem dX8_steal_47 : decode cX8_steal 47 = .ok (.ireturn, 1) := by decide +kernel
theorem dX8_giveBack_0 : decode cX8_giveBack 0 = .ok (.iload_n 1, 1) := by decide +kernel
theorem dX8_giveBack_1 : decode cX8_giveBack 1 = .ok (.aload_n 0, 1) := by decide +kernel
theorem dX8_giveBack_2 : decode cX8_giveBack 2 = .ok (.getfield 10, 3) := by decide +kernel
theorem dX8_giveBack_5 : decode cX8_giveBack 5 = .ok (.invokevirtual 94, 3) := by decide +kernel
theorem dX8_giveBack_8 : decode cX8_giveBack 8 = .ok (.invokestatic 115, 3) := by decide +kernel
theorem dX8_giveBack_11 : decode cX8_giveBack 11 = .ok (.istore_n 2, 1) := by decide +kernel
theorem dX8_giveBack_12 : decode cX8_giveBack 12 = .ok (.iload_n 2, 1) := by decide +kernel
theorem dX8_giveBack_13 : decode cX8_giveBack 13 = .ok (.ifCond .eq 5, 3) := by decide +kernel
theorem dX8_giveBack_16 : decode cX8_giveBack 16 = .ok (.iload_n 2, 1) := by decide +kernel
theorem dX8_giveBack_17 : decode cX8_giveBack 17 = .ok (.ireturn, 1) := by decide +kernel
theorem dX8_giveBack_18 : decode cX8_giveBack 18 = .ok (.aload_n 0, 1) := by decide +kernel
theorem dX8_giveBack_19 : decode cX8_giveBack 19 = .ok (.getfield 22, 3) := by decide +kernel
theorem dX8_giveBack_22 : decode cX8_giveBack 22 = .ok (.aload_n 0, 1) := by decide +kernel
theorem dX8_giveBack_23 : decode cX8_giveBack 23 = .ok (.getfield 10, 3) := by decide +kernel
theorem dX8_giveBack_26 : decode cX8_giveBack 26 = .ok (.invokevirtual 51, 3) := by decide +kernel
theorem dX8_giveBack_29 : decode cX8_giveBack 29 = .ok (.aload_n 0, 1) := by decide +kernel
theorem dX8_giveBack_30 : decode cX8_giveBack 30 = .ok (.getfield 10, 3) := by decide +kernel
theorem dX8_giveBack_33 : decode cX8_giveBack 33 = .ok (.getfield 105, 3) := by decide +kernel
theorem dX8_giveBack_36 : decode cX8_giveBack 36 = .ok (.iload_n 1, 1) := by decide +kernel
theorem dX8_giveBack_37 : decode cX8_giveBack 37 = .ok (.invokevirtual 118, 3) := by decide +kernel
theorem dX8_giveBack_40 : decode cX8_giveBack 40 = .ok (.aload_n 0, 1) := by decide +kernel
theorem dX8_giveBack_41 : decode cX8_giveBack 41 = .ok (.getfield 10, 3) := by decide +kernel
theorem dX8_giveBack_44 : decode cX8_giveBack 44 = .ok (.getfield 105, 3) := by decide +kernel
theorem dX8_giveBack_47 : decode cX8_giveBack 47 = .ok (.getfield 109, 3) := by decide +kernel
theorem dX8_giveBack_50 : decode cX8_giveBack 50 = .ok (.ireturn, 1) := by decide +kernel
theorem dX8_set_0 : decode cX8_set 0 = .ok (.iload_n 1, 1) := by decide +kernel
theorem dX8_set_1 : decode cX8_set 1 = .ok (.iload_n 2, 1) := by decide +kernel
theorem dX8_set_2 : decode cX8_set 2 = .ok (.invokestatic 121, 3) := by decide +kernel
theorem dX8_set_5 : decode cX8_set 5 = .ok (.ifCond .ne 6, 3) := by decide +kernel
theorem dX8_set_8 : decode cX8_set 8 = .ok (.ldc 79, 2) := by decide +kernel
theorem dX8_set_10 : decode cX8_set 10 = .ok (.ireturn, 1) := by decide +kernel
theorem dX8_set_11 : decode cX8_set 11 = .ok (.aload_n 0, 1) := by decide +kernel
theorem dX8_set_12 : decode cX8_set 12 = .ok (.getfield 22, 3) := by decide +kernel
theorem dX8_set_15 : decode cX8_set 15 = .ok (.aload_n 0, 1) := by decide +kernel
theorem dX8_set_16 : decode cX8_set 16 = .ok (.getfield 10, 3) := by decide +kernel
theorem dX8_set_19 : decode cX8_set 19 = .ok (.invokevirtual 51, 3) := by decide +kernel
theorem dX8_set_22 : decode cX8_set 22 = .ok (.aload_n 0, 1) := by decide +kernel
theorem dX8_set_23 : decode cX8_set 23 = .ok (.getfield 10, 3) := by decide +kernel
theorem dX8_set_26 : decode cX8_set 26 = .ok (.iload_n 1, 1) := by decide +kernel
theorem dX8_set_27 : decode cX8_set 27 = .ok (.iload_n 2, 1) := by decide +kernel
theorem dX8_set_28 : decode cX8_set 28 = .ok (.invokevirtual 125, 3) := by decide +kernel
theorem dX8_set_31 : decode cX8_set 31 = .ok (.ireturn, 1) := by decide +kernel
theorem dX8_tapOf_0 : decode cX8_tapOf 0 = .ok (.iload_n 1, 1) := by decide +kernel
theorem dX8_tapOf_1 : decode cX8_tapOf 1 = .ok (.iconst 0, 1) := by decide +kernel
theorem dX8_tapOf_2 : decode cX8_tapOf 2 = .ok (.iconst 4, 1) := by decide +kernel
theorem dX8_tapOf_3 : decode cX8_tapOf 3 = .ok (.invokestatic 140, 3) := by decide +kernel
theorem dX8_tapOf_6 : decode cX8_tapOf 6 = .ok (.ifCond .eq 12, 3) := by decide +kernel
theorem dX8_tapOf_9 : decode cX8_tapOf 9 = .ok (.iload_n 2, 1) := by decide +kernel
theorem dX8_tapOf_10 : decode cX8_tapOf 10 = .ok (.iconst 0, 1) := by decide +kernel
theorem dX8_tapOf_11 : decode cX8_tapOf 11 = .ok (.iconst 4, 1) := by decide +kernel
theorem dX8_tapOf_12 : decode cX8_tapOf 12 = .ok (.invokestatic 140, 3) := by decide +kernel
theorem dX8_tapOf_15 : decode cX8_tapOf 15 = .ok (.ifCond .ne 6, 3) := by decide +kernel
theorem dX8_tapOf_18 : decode cX8_tapOf 18 = .ok (.ldc 79, 2) := by decide +kernel
theorem dX8_tapOf_20 : decode cX8_tapOf 20 = .ok (.ireturn, 1) := by decide +kernel
theorem dX8_tapOf_21 : decode cX8_tapOf 21 = .ok (.aload_n 0, 1) := by decide +kernel
theorem dX8_tapOf_22 : decode cX8_tapOf 22 = .ok (.getfield 10, 3) := by decide +kernel
theorem dX8_tapOf_25 : decode cX8_tapOf 25 = .ok (.iload_n 1, 1) := by decide +kernel
theorem dX8_tapOf_26 : decode cX8_tapOf 26 = .ok (.invokevirtual 80, 3) := by decide +kernel
theorem dX8_tapOf_29 : decode cX8_tapOf 29 = .ok (.ifCond .ne 6, 3) := by decide +kernel
theorem dX8_tapOf_32 : decode cX8_tapOf 32 = .ok (.ldc 144, 2) := by decide +kernel
theorem dX8_tapOf_34 : decode cX8_tapOf 34 = .ok (.ireturn, 1) := by decide +kernel
theorem dX8_tapOf_35 : decode cX8_tapOf 35 = .ok (.iload_n 2, 1) := by decide +kernel
theorem dX8_tapOf_36 : decode cX8_tapOf 36 = .ok (.tableswitch 76 0 3 #[32, 41, 50, 67], 32) := by decide +kernel
theorem dX8_tapOf_68 : decode cX8_tapOf 68 = .ok (.aload_n 0, 1) := by decide +kernel
theorem dX8_tapOf_69 : decode cX8_tapOf 69 = .ok (.getfield 10, 3) := by decide +kernel
theorem dX8_tapOf_72 : decode cX8_tapOf 72 = .ok (.iload_n 1, 1) := by decide +kernel
theorem dX8_tapOf_73 : decode cX8_tapOf 73 = .ok (.invokevirtual 84, 3) := by decide +kernel
theorem dX8_tapOf_76 : decode cX8_tapOf 76 = .ok (.ireturn, 1) := by decide +kernel
theorem dX8_tapOf_77 : decode cX8_tapOf 77 = .ok (.aload_n 0, 1) := by decide +kernel
theorem dX8_tapOf_78 : decode cX8_tapOf 78 = .ok (.getfield 10, 3) := by decide +kernel
theorem dX8_tapOf_81 : decode cX8_tapOf 81 = .ok (.iload_n 1, 1) := by decide +kernel
theorem dX8_tapOf_82 : decode cX8_tapOf 82 = .ok (.invokevirtual 91, 3) := by decide +kernel
theorem dX8_tapOf_85 : decode cX8_tapOf 85 = .ok (.ireturn, 1) := by decide +kernel
theorem dX8_tapOf_86 : decode cX8_tapOf 86 = .ok (.aload_n 0, 1) := by decide +kernel
theorem dX8_tapOf_87 : decode cX8_tapOf 87 = .ok (.getfield 10, 3) := by decide +kernel
theorem dX8_tapOf_90 : decode cX8_tapOf 90 = .ok (.iload_n 1, 1) := by decide +kernel
theorem dX8_tapOf_91 : decode cX8_tapOf 91 = .ok (.invokevirtual 72, 3) := by decide +kernel
theorem dX8_tapOf_94 : decode cX8_tapOf 94 = .ok (.ifCond .eq 7, 3) := by decide +kernel
theorem dX8_tapOf_97 : decode cX8_tapOf 97 = .ok (.iconst 1, 1) := by decide +kernel
theorem dX8_tapOf_98 : decode cX8_tapOf 98 = .ok (.goto 4, 3) := by decide +kernel
theorem dX8_tapOf_101 : decode cX8_tapOf 101 = .ok (.iconst 0, 1) := by decide +kernel
theorem dX8_tapOf_102 : decode cX8_tapOf 102 = .ok (.ireturn, 1) := by decide +kernel
theorem dX8_tapOf_103 : decode cX8_tapOf 103 = .ok (.aload_n 0, 1) := by decide +kernel
theorem dX8_tapOf_104 : decode cX8_tapOf 104 = .ok (.getfield 10, 3) := by decide +kernel
theorem dX8_tapOf_107 : decode cX8_tapOf 107 = .ok (.iload_n 1, 1) := by decide +kernel
theorem dX8_tapOf_108 : decode cX8_tapOf 108 = .ok (.invokevirtual 145, 3) := by decide +kernel
theorem dX8_tapOf_111 : decode cX8_tapOf 111 = .ok (.ireturn, 1) := by decide +kernel
theorem dX8_tapOf_112 : decode cX8_tapOf 112 = .ok (.aload_n 0, 1) := by decide +kernel
theorem dX8_tapOf_113 : decode cX8_tapOf 113 = .ok (.getfield 10, 3) := by decide +kernel
theorem dX8_tapOf_116 : decode cX8_tapOf 116 = .ok (.iload_n 1, 1) := by decide +kernel
theorem dX8_tapOf_117 : decode cX8_tapOf 117 = .ok (.invokevirtual 148, 3) := by decide +kernel
theorem dX8_tapOf_120 : decode cX8_tapOf 120 = .ok (.ireturn, 1) := by decide +kernel
theorem dX8_wordOf_0 : decode cX8_wordOf 0 = .ok (.iload_n 1, 1) := by decide +kernel
theorem dX8_wordOf_1 : decode cX8_wordOf 1 = .ok (.iconst 0, 1) := by decide +kernel
theorem dX8_wordOf_2 : decode cX8_wordOf 2 = .ok (.bipush 63, 2) := by decide +kernel
theorem dX8_wordOf_4 : decode cX8_wordOf 4 = .ok (.invokestatic 140, 3) := by decide +kernel
theorem dX8_wordOf_7 : decode cX8_wordOf 7 = .ok (.ifCond .ne 6, 3) := by decide +kernel
theorem dX8_wordOf_10 : decode cX8_wordOf 10 = .ok (.ldc 79, 2) := by decide +kernel
theorem dX8_wordOf_12 : decode cX8_wordOf 12 = .ok (.ireturn, 1) := by decide +kernel
theorem dX8_wordOf_13 : decode cX8_wordOf 13 = .ok (.iload_n 1, 1) := by decide +kernel
theorem dX8_wordOf_14 : decode cX8_wordOf 14 = .ok (.aload_n 0, 1) := by decide +kernel
theorem dX8_wordOf_15 : decode cX8_wordOf 15 = .ok (.getfield 10, 3) := by decide +kernel
theorem dX8_wordOf_18 : decode cX8_wordOf 18 = .ok (.getfield 105, 3) := by decide +kernel
theorem dX8_wordOf_21 : decode cX8_wordOf 21 = .ok (.getfield 109, 3) := by decide +kernel
theorem dX8_wordOf_24 : decode cX8_wordOf 24 = .ok (.if_icmp .lt 6, 3) := by decide +kernel
theorem dX8_wordOf_27 : decode cX8_wordOf 27 = .ok (.ldc 144, 2) := by decide +kernel
theorem dX8_wordOf_29 : decode cX8_wordOf 29 = .ok (.ireturn, 1) := by decide +kernel
theorem dX8_wordOf_30 : decode cX8_wordOf 30 = .ok (.aload_n 0, 1) := by decide +kernel
theorem dX8_wordOf_31 : decode cX8_wordOf 31 = .ok (.getfield 10, 3) := by decide +kernel
theorem dX8_wordOf_34 : decode cX8_wordOf 34 = .ok (.getfield 105, 3) := by decide +kernel
theorem dX8_wordOf_37 : decode cX8_wordOf 37 = .ok (.iload_n 1, 1) := by decide +kernel
theorem dX8_wordOf_38 : decode cX8_wordOf 38 = .ok (.invokevirtual 151, 3) := by decide +kernel
theorem dX8_wordOf_41 : decode cX8_wordOf 41 = .ok (.ireturn, 1) := by decide +kernel
theorem dX8_outputOf_0 : decode cX8_outputOf 0 = .ok (.iload_n 1, 1) := by decide +kernel
theorem dX8_outputOf_1 : decode cX8_outputOf 1 = .ok (.ifCond .ge 6, 3) := by decide +kernel
theorem dX8_outputOf_4 : decode cX8_outputOf 4 = .ok (.ldc 79, 2) := by decide +kernel
theorem dX8_outputOf_6 : decode cX8_outputOf 6 = .ok (.ireturn, 1) := by decide +kernel
theorem dX8_outputOf_7 : decode cX8_outputOf 7 = .ok (.iload_n 1, 1) := by decide +kernel
theorem dX8_outputOf_8 : decode cX8_outputOf 8 = .ok (.aload_n 0, 1) := by decide +kernel
theorem dX8_outputOf_9 : decode cX8_outputOf 9 = .ok (.getfield 10, 3) := by decide +kernel
theorem dX8_outputOf_12 : decode cX8_outputOf 12 = .ok (.getfield 154, 3) := by decide +kernel
theorem dX8_outputOf_15 : decode cX8_outputOf 15 = .ok (.getfield 158, 3) := by decide +kernel
theorem dX8_outputOf_18 : decode cX8_outputOf 18 = .ok (.if_icmp .lt 6, 3) := by decide +kernel
theorem dX8_outputOf_21 : decode cX8_outputOf 21 = .ok (.ldc 144, 2) := by decide +kernel
theorem dX8_outputOf_23 : decode cX8_outputOf 23 = .ok (.ireturn, 1) := by decide +kernel
theorem dX8_outputOf_24 : decode cX8_outputOf 24 = .ok (.aload_n 0, 1) := by decide +kernel
theorem dX8_outputOf_25 : decode cX8_outputOf 25 = .ok (.getfield 10, 3) := by decide +kernel
theorem dX8_outputOf_28 : decode cX8_outputOf 28 = .ok (.getfield 154, 3) := by decide +kernel
theorem dX8_outputOf_31 : decode cX8_outputOf 31 = .ok (.iload_n 1, 1) := by decide +kernel
theorem dX8_outputOf_32 : decode cX8_outputOf 32 = .ok (.invokevirtual 163, 3) := by decide +kernel
theorem dX8_outputOf_35 : decode cX8_outputOf 35 = .ok (.ireturn, 1) := by decide +kernel
theorem dX8_meter_0 : decode cX8_meter 0 = .ok (.iload_n 1, 1) := by decide +kernel
theorem dX8_meter_1 : decode cX8_meter 1 = .ok (.tableswitch 108 0 4 #[35, 46, 57, 68, 79], 35) := by decide +kernel
theorem dX8_meter_36 : decode cX8_meter 36 = .ok (.aload_n 0, 1) := by decide +kernel
theorem dX8_meter_37 : decode cX8_meter 37 = .ok (.getfield 10, 3) := by decide +kernel
theorem dX8_meter_40 : decode cX8_meter 40 = .ok (.getfield 128, 3) := by decide +kernel
theorem dX8_meter_43 : decode cX8_meter 43 = .ok (.getfield 132, 3) := by decide +kernel
theorem dX8_meter_46 : decode cX8_meter 46 = .ok (.ireturn, 1) := by decide +kernel
theorem dX8_meter_47 : decode cX8_meter 47 = .ok (.aload_n 0, 1) := by decide +kernel
theorem dX8_meter_48 : decode cX8_meter 48 = .ok (.getfield 10, 3) := by decide +kernel
theorem dX8_meter_51 : decode cX8_meter 51 = .ok (.getfield 128, 3) := by decide +kernel
theorem dX8_meter_54 : decode cX8_meter 54 = .ok (.getfield 166, 3) := by decide +kernel
theorem dX8_meter_57 : decode cX8_meter 57 = .ok (.ireturn, 1) := by decide +kernel
theorem dX8_meter_58 : decode cX8_meter 58 = .ok (.aload_n 0, 1) := by decide +kernel
theorem dX8_meter_59 : decode cX8_meter 59 = .ok (.getfield 10, 3) := by decide +kernel
theorem dX8_meter_62 : decode cX8_meter 62 = .ok (.getfield 128, 3) := by decide +kernel
theorem dX8_meter_65 : decode cX8_meter 65 = .ok (.getfield 169, 3) := by decide +kernel
theorem dX8_meter_68 : decode cX8_meter 68 = .ok (.ireturn, 1) := by decide +kernel
theorem dX8_meter_69 : decode cX8_meter 69 = .ok (.aload_n 0, 1) := by decide +kernel
theorem dX8_meter_70 : decode cX8_meter 70 = .ok (.getfield 10, 3) := by decide +kernel
theorem dX8_meter_73 : decode cX8_meter 73 = .ok (.getfield 128, 3) := by decide +kernel
theorem dX8_meter_76 : decode cX8_meter 76 = .ok (.getfield 172, 3) := by decide +kernel
theorem dX8_meter_79 : decode cX8_meter 79 = .ok (.ireturn, 1) := by decide +kernel
theorem dX8_meter_80 : decode cX8_meter 80 = .ok (.aload_n 0, 1) := by decide +kernel
theorem dX8_meter_81 : decode cX8_meter 81 = .ok (.getfield 10, 3) := by decide +kernel
theorem dX8_meter_84 : decode cX8_meter 84 = .ok (.getfield 128, 3) := by decide +kernel
theorem dX8_meter_87 : decode cX8_meter 87 = .ok (.getfield 132, 3) := by decide +kernel
theorem dX8_meter_90 : decode cX8_meter 90 = .ok (.ifCond .ne 8, 3) := by decide +kernel
theorem dX8_meter_93 : decode cX8_meter 93 = .ok (.ldc 144, 2) := by decide +kernel
theorem dX8_meter_95 : decode cX8_meter 95 = .ok (.goto 13, 3) := by decide +kernel
theorem dX8_meter_98 : decode cX8_meter 98 = .ok (.aload_n 0, 1) := by decide +kernel
theorem dX8_meter_99 : decode cX8_meter 99 = .ok (.getfield 10, 3) := by decide +kernel
theorem dX8_meter_102 : decode cX8_meter 102 = .ok (.getfield 128, 3) := by decide +kernel
theorem dX8_meter_105 : decode cX8_meter 105 = .ok (.invokevirtual 175, 3) := by decide +kernel
theorem dX8_meter_108 : decode cX8_meter 108 = .ok (.ireturn, 1) := by decide +kernel
theorem dX8_meter_109 : decode cX8_meter 109 = .ok (.ldc 79, 2) := by decide +kernel
theorem dX8_meter_111 : decode cX8_meter 111 = .ok (.ireturn, 1) := by decide +kernel
theorem dX8_loudest_0 : decode cX8_loudest 0 = .ok (.iconst 0, 1) := by decide +kernel
theorem dX8_loudest_1 : decode cX8_loudest 1 = .ok (.istore_n 1, 1) := by decide +kernel
theorem dX8_loudest_2 : decode cX8_loudest 2 = .ok (.iconst 0, 1) := by decide +kernel
theorem dX8_loudest_3 : decode cX8_loudest 3 = .ok (.istore_n 2, 1) := by decide +kernel
theorem dX8_loudest_4 : decode cX8_loudest 4 = .ok (.iload_n 2, 1) := by decide +kernel
theorem dX8_loudest_5 : decode cX8_loudest 5 = .ok (.iconst 4, 1) := by decide +kernel
theorem dX8_loudest_6 : decode cX8_loudest 6 = .ok (.if_icmp .ge 55, 3) := by decide +kernel
theorem dX8_loudest_9 : decode cX8_loudest 9 = .ok (.aload_n 0, 1) := by decide +kernel
theorem dX8_loudest_10 : decode cX8_loudest 10 = .ok (.getfield 10, 3) := by decide +kernel
theorem dX8_loudest_13 : decode cX8_loudest 13 = .ok (.iload_n 2, 1) := by decide +kernel
theorem dX8_loudest_14 : decode cX8_loudest 14 = .ok (.invokevirtual 80, 3) := by decide +kernel
theorem dX8_loudest_17 : decode cX8_loudest 17 = .ok (.ifCond .eq 38, 3) := by decide +kernel
theorem dX8_loudest_20 : decode cX8_loudest 20 = .ok (.aload_n 0, 1) := by decide +kernel
theorem dX8_loudest_21 : decode cX8_loudest 21 = .ok (.getfield 10, 3) := by decide +kernel
theorem dX8_loudest_24 : decode cX8_loudest 24 = .ok (.iload_n 2, 1) := by decide +kernel
theorem dX8_loudest_25 : decode cX8_loudest 25 = .ok (.invokevirtual 72, 3) := by decide +kernel
theorem dX8_loudest_28 : decode cX8_loudest 28 = .ok (.ifCond .ne 27, 3) := by decide +kernel
theorem dX8_loudest_31 : decode cX8_loudest 31 = .ok (.iload_n 1, 1) := by decide +kernel
theorem dX8_loudest_32 : decode cX8_loudest 32 = .ok (.aload_n 0, 1) := by decide +kernel
theorem dX8_loudest_33 : decode cX8_loudest 33 = .ok (.getfield 10, 3) := by decide +kernel
theorem dX8_loudest_36 : decode cX8_loudest 36 = .ok (.iload_n 2, 1) := by decide +kernel
theorem dX8_loudest_37 : decode cX8_loudest 37 = .ok (.invokevirtual 91, 3) := by decide +kernel
theorem dX8_loudest_40 : decode cX8_loudest 40 = .ok (.aload_n 0, 1) := by decide +kernel
theorem dX8_loudest_41 : decode cX8_loudest 41 = .ok (.getfield 10, 3) := by decide +kernel
theorem dX8_loudest_44 : decode cX8_loudest 44 = .ok (.getfield 198, 3) := by decide +kernel
theorem dX8_loudest_47 : decode cX8_loudest 47 = .ok (.invokestatic 201, 3) := by decide +kernel
theorem dX8_loudest_50 : decode cX8_loudest 50 = .ok (.invokestatic 193, 3) := by decide +kernel
theorem dX8_loudest_53 : decode cX8_loudest 53 = .ok (.iadd, 1) := by decide +kernel
theorem dX8_loudest_54 : decode cX8_loudest 54 = .ok (.istore_n 1, 1) := by decide +kernel
theorem dX8_loudest_55 : decode cX8_loudest 55 = .ok (.iinc 2 1, 3) := by decide +kernel
theorem dX8_loudest_58 : decode cX8_loudest 58 = .ok (.goto (-54), 3) := by decide +kernel
theorem dX8_loudest_61 : decode cX8_loudest 61 = .ok (.iload_n 1, 1) := by decide +kernel
theorem dX8_loudest_62 : decode cX8_loudest 62 = .ok (.ireturn, 1) := by decide +kernel
theorem dX8_count_0 : decode cX8_count 0 = .ok (.iload_n 1, 1) := by decide +kernel
theorem dX8_count_1 : decode cX8_count 1 = .ok (.tableswitch 195 0 21 #[103, 114, 122, 127, 132, 143, 155, 163, 171, 195, 195, 195, 195, 195, 195, 195, 195, 195, 195, 195, 179, 187], 103) := by decide +kernel
theorem dX8_count_104 : decode cX8_count 104 = .ok (.aload_n 0, 1) := by decide +kernel
theorem dX8_count_105 : decode cX8_count 105 = .ok (.getfield 10, 3) := by decide +kernel
theorem dX8_count_108 : decode cX8_count 108 = .ok (.getfield 105, 3) := by decide +kernel
theorem dX8_count_111 : decode cX8_count 111 = .ok (.getfield 109, 3) := by decide +kernel
theorem dX8_count_114 : decode cX8_count 114 = .ok (.ireturn, 1) := by decide +kernel
theorem dX8_count_115 : decode cX8_count 115 = .ok (.aload_n 0, 1) := by decide +kernel
theorem dX8_count_116 : decode cX8_count 116 = .ok (.getfield 10, 3) := by decide +kernel
theorem dX8_count_119 : decode cX8_count 119 = .ok (.invokevirtual 94, 3) := by decide +kernel
theorem dX8_count_122 : decode cX8_count 122 = .ok (.ireturn, 1) := by decide +kernel
theorem dX8_count_123 : decode cX8_count 123 = .ok (.aload_n 0, 1) := by decide +kernel
theorem dX8_count_124 : decode cX8_count 124 = .ok (.invokevirtual 207, 3) := by decide +kernel
theorem dX8_count_127 : decode cX8_count 127 = .ok (.ireturn, 1) := by decide +kernel
theorem dX8_count_128 : decode cX8_count 128 = .ok (.aload_n 0, 1) := by decide +kernel
theorem dX8_count_129 : decode cX8_count 129 = .ok (.invokevirtual 210, 3) := by decide +kernel
theorem dX8_count_132 : decode cX8_count 132 = .ok (.ireturn, 1) := by decide +kernel
theorem dX8_count_133 : decode cX8_count 133 = .ok (.aload_n 0, 1) := by decide +kernel
theorem dX8_count_134 : decode cX8_count 134 = .ok (.getfield 10, 3) := by decide +kernel
theorem dX8_count_137 : decode cX8_count 137 = .ok (.getfield 105, 3) := by decide +kernel
theorem dX8_count_140 : decode cX8_count 140 = .ok (.invokevirtual 213, 3) := by decide +kernel
theorem dX8_count_143 : decode cX8_count 143 = .ok (.ireturn, 1) := by decide +kernel
theorem dX8_count_144 : decode cX8_count 144 = .ok (.aload_n 0, 1) := by decide +kernel
theorem dX8_count_145 : decode cX8_count 145 = .ok (.getfield 10, 3) := by decide +kernel
theorem dX8_count_148 : decode cX8_count 148 = .ok (.getfield 105, 3) := by decide +kernel
theorem dX8_count_151 : decode cX8_count 151 = .ok (.iconst 0, 1) := by decide +kernel
theorem dX8_count_152 : decode cX8_count 152 = .ok (.invokevirtual 187, 3) := by decide +kernel
theorem dX8_count_155 : decode cX8_count 155 = .ok (.ireturn, 1) := by decide +kernel
theorem dX8_count_156 : decode cX8_count 156 = .ok (.aload_n 0, 1) := by decide +kernel
theorem dX8_count_157 : decode cX8_count 157 = .ok (.getfield 10, 3) := by decide +kernel
theorem dX8_count_160 : decode cX8_count 160 = .ok (.getfield 216, 3) := by decide +kernel
theorem dX8_count_163 : decode cX8_count 163 = .ok (.ireturn, 1) := by decide +kernel
theorem dX8_count_164 : decode cX8_count 164 = .ok (.aload_n 0, 1) := by decide +kernel
theorem dX8_count_165 : decode cX8_count 165 = .ok (.getfield 22, 3) := by decide +kernel
theorem dX8_count_168 : decode cX8_count 168 = .ok (.getfield 219, 3) := by decide +kernel
theorem dX8_count_171 : decode cX8_count 171 = .ok (.ireturn, 1) := by decide +kernel
theorem dX8_count_172 : decode cX8_count 172 = .ok (.aload_n 0, 1) := by decide +kernel
theorem dX8_count_173 : decode cX8_count 173 = .ok (.getfield 29, 3) := by decide +kernel
theorem dX8_count_176 : decode cX8_count 176 = .ok (.getfield 220, 3) := by decide +kernel
theorem dX8_count_179 : decode cX8_count 179 = .ok (.ireturn, 1) := by decide +kernel
theorem dX8_count_180 : decode cX8_count 180 = .ok (.aload_n 0, 1) := by decide +kernel
theorem dX8_count_181 : decode cX8_count 181 = .ok (.getfield 10, 3) := by decide +kernel
theorem dX8_count_184 : decode cX8_count 184 = .ok (.getfield 198, 3) := by decide +kernel
theorem dX8_count_187 : decode cX8_count 187 = .ok (.ireturn, 1) := by decide +kernel
theorem dX8_count_188 : decode cX8_count 188 = .ok (.aload_n 0, 1) := by decide +kernel
theorem dX8_count_189 : decode cX8_count 189 = .ok (.getfield 10, 3) := by decide +kernel
theorem dX8_count_192 : decode cX8_count 192 = .ok (.getfield 221, 3) := by decide +kernel
theorem dX8_count_195 : decode cX8_count 195 = .ok (.ireturn, 1) := by decide +kernel
theorem dX8_count_196 : decode cX8_count 196 = .ok (.ldc 79, 2) := by decide +kernel
theorem dX8_count_198 : decode cX8_count 198 = .ok (.ireturn, 1) := by decide +kernel
theorem dX8_undo_0 : decode cX8_undo 0 = .ok (.aload_n 0, 1) := by decide +kernel
theorem dX8_undo_1 : decode cX8_undo 1 = .ok (.getfield 22, 3) := by decide +kernel
theorem dX8_undo_4 : decode cX8_undo 4 = .ok (.getfield 219, 3) := by decide +kernel
theorem dX8_undo_7 : decode cX8_undo 7 = .ok (.ifCond .ne 6, 3) := by decide +kernel
theorem dX8_undo_10 : decode cX8_undo 10 = .ok (.ldc 83, 2) := by decide +kernel
theorem dX8_undo_12 : decode cX8_undo 12 = .ok (.ireturn, 1) := by decide +kernel
theorem dX8_undo_13 : decode cX8_undo 13 = .ok (.aload_n 0, 1) := by decide +kernel
theorem dX8_undo_14 : decode cX8_undo 14 = .ok (.getfield 22, 3) := by decide +kernel
theorem dX8_undo_17 : decode cX8_undo 17 = .ok (.aload_n 0, 1) := by decide +kernel
theorem dX8_undo_18 : decode cX8_undo 18 = .ok (.getfield 10, 3) := by decide +kernel
theorem dX8_undo_21 : decode cX8_undo 21 = .ok (.invokevirtual 224, 3) := by decide +kernel
theorem dX8_undo_24 : decode cX8_undo 24 = .ok (.aload_n 0, 1) := by decide +kernel
theorem dX8_undo_25 : decode cX8_undo 25 = .ok (.getfield 22, 3) := by decide +kernel
theorem dX8_undo_28 : decode cX8_undo 28 = .ok (.getfield 219, 3) := by decide +kernel
theorem dX8_undo_31 : decode cX8_undo 31 = .ok (.ireturn, 1) := by decide +kernel
theorem dX8_isWithin_0 : decode cX8_isWithin 0 = .ok (.iload_n 0, 1) := by decide +kernel
theorem dX8_isWithin_1 : decode cX8_isWithin 1 = .ok (.iload_n 1, 1) := by decide +kernel
theorem dX8_isWithin_2 : decode cX8_isWithin 2 = .ok (.if_icmp .lt 12, 3) := by decide +kernel
theorem dX8_isWithin_5 : decode cX8_isWithin 5 = .ok (.iload_n 0, 1) := by decide +kernel
theorem dX8_isWithin_6 : decode cX8_isWithin 6 = .ok (.iload_n 2, 1) := by decide +kernel
theorem dX8_isWithin_7 : decode cX8_isWithin 7 = .ok (.if_icmp .gt 7, 3) := by decide +kernel
theorem dX8_isWithin_10 : decode cX8_isWithin 10 = .ok (.iconst 1, 1) := by decide +kernel
theorem dX8_isWithin_11 : decode cX8_isWithin 11 = .ok (.goto 4, 3) := by decide +kernel
theorem dX8_isWithin_14 : decode cX8_isWithin 14 = .ok (.iconst 0, 1) := by decide +kernel
theorem dX8_isWithin_15 : decode cX8_isWithin 15 = .ok (.ireturn, 1) := by decide +kernel
theorem dX8_isTap_0 : decode cX8_isTap 0 = .ok (.iload_n 0, 1) := by decide +kernel
theorem dX8_isTap_1 : decode cX8_isTap 1 = .ok (.iconst 0, 1) := by decide +kernel
theorem dX8_isTap_2 : decode cX8_isTap 2 = .ok (.iconst 3, 1) := by decide +kernel
theorem dX8_isTap_3 : decode cX8_isTap 3 = .ok (.invokestatic 140, 3) := by decide +kernel
theorem dX8_isTap_6 : decode cX8_isTap 6 = .ok (.ireturn, 1) := by decide +kernel
theorem dX8_isSample_0 : decode cX8_isSample 0 = .ok (.iload_n 0, 1) := by decide +kernel
theorem dX8_isSample_1 : decode cX8_isSample 1 = .ok (.sipush (-20000), 3) := by decide +kernel
theorem dX8_isSample_4 : decode cX8_isSample 4 = .ok (.sipush 20000, 3) := by decide +kernel
theorem dX8_isSample_7 : decode cX8_isSample 7 = .ok (.invokestatic 140, 3) := by decide +kernel
theorem dX8_isSample_10 : decode cX8_isSample 10 = .ok (.ireturn, 1) := by decide +kernel
theorem dX8_isSetting_0 : decode cX8_isSetting 0 = .ok (.iload_n 0, 1) := by decide +kernel
theorem dX8_isSetting_1 : decode cX8_isSetting 1 = .ok (.ifCond .ne 13, 3) := by decide +kernel
theorem dX8_isSetting_4 : decode cX8_isSetting 4 = .ok (.iload_n 1, 1) := by decide +kernel
theorem dX8_isSetting_5 : decode cX8_isSetting 5 = .ok (.bipush 100, 2) := by decide +kernel
theorem dX8_isSetting_7 : decode cX8_isSetting 7 = .ok (.sipush 30000, 3) := by decide +kernel
theorem dX8_isSetting_10 : decode cX8_isSetting 10 = .ok (.invokestatic 140, 3) := by decide +kernel
theorem dX8_isSetting_13 : decode cX8_isSetting 13 = .ok (.ireturn, 1) := by decide +kernel
theorem dX8_isSetting_14 : decode cX8_isSetting 14 = .ok (.iload_n 0, 1) := by decide +kernel
theorem dX8_isSetting_15 : decode cX8_isSetting 15 = .ok (.iconst 1, 1) := by decide +kernel
theorem dX8_isSetting_16 : decode cX8_isSetting 16 = .ok (.if_icmp .ne 16, 3) := by decide +kernel
theorem dX8_isSetting_19 : decode cX8_isSetting 19 = .ok (.iload_n 1, 1) := by decide +kernel
theorem dX8_isSetting_20 : decode cX8_isSetting 20 = .ok (.iconst 0, 1) := by decide +kernel
theorem dX8_isSetting_21 : decode cX8_isSetting 21 = .ok (.iconst 2, 1) := by decide +kernel
theorem dX8_isSetting_22 : decode cX8_isSetting 22 = .ok (.invokestatic 140, 3) := by decide +kernel
theorem dX8_isSetting_25 : decode cX8_isSetting 25 = .ok (.ifCond .eq 7, 3) := by decide +kernel
theorem dX8_isSetting_28 : decode cX8_isSetting 28 = .ok (.iconst 1, 1) := by decide +kernel
theorem dX8_isSetting_29 : decode cX8_isSetting 29 = .ok (.goto 4, 3) := by decide +kernel
theorem dX8_isSetting_32 : decode cX8_isSetting 32 = .ok (.iconst 0, 1) := by decide +kernel
theorem dX8_isSetting_33 : decode cX8_isSetting 33 = .ok (.ireturn, 1) := by decide +kernel
theorem dX8_sampleError_0 : decode cX8_sampleError 0 = .ok (.iload_n 0, 1) := by decide +kernel
theorem dX8_sampleError_1 : decode cX8_sampleError 1 = .ok (.invokestatic 178, 3) := by decide +kernel
theorem dX8_sampleError_4 : decode cX8_sampleError 4 = .ok (.ifCond .eq 7, 3) := by decide +kernel
theorem dX8_sampleError_7 : decode cX8_sampleError 7 = .ok (.iconst 0, 1) := by decide +kernel
theorem dX8_sampleError_8 : decode cX8_sampleError 8 = .ok (.goto 5, 3) := by decide +kernel
theorem dX8_sampleError_11 : decode cX8_sampleError 11 = .ok (.ldc 79, 2) := by decide +kernel
theorem dX8_sampleError_13 : decode cX8_sampleError 13 = .ok (.ireturn, 1) := by decide +kernel
theorem dX8_tapError_0 : decode cX8_tapError 0 = .ok (.iload_n 0, 1) := by decide +kernel
theorem dX8_tapError_1 : decode cX8_tapError 1 = .ok (.invokestatic 76, 3) := by decide +kernel
theorem dX8_tapError_4 : decode cX8_tapError 4 = .ok (.ifCond .eq 30, 3) := by decide +kernel
theorem dX8_tapError_7 : decode cX8_tapError 7 = .ok (.iload_n 1, 1) := by decide +kernel
theorem dX8_tapError_8 : decode cX8_tapError 8 = .ok (.iconst 1, 1) := by decide +kernel
theorem dX8_tapError_9 : decode cX8_tapError 9 = .ok (.bipush 64, 2) := by decide +kernel
theorem dX8_tapError_11 : decode cX8_tapError 11 = .ok (.invokestatic 140, 3) := by decide +kernel
theorem dX8_tapError_14 : decode cX8_tapError 14 = .ok (.ifCond .eq 20, 3) := by decide +kernel
theorem dX8_tapError_17 : decode cX8_tapError 17 = .ok (.iload_n 2, 1) := by decide +kernel
theorem dX8_tapError_18 : decode cX8_tapError 18 = .ok (.sipush (-900), 3) := by decide +kernel
theorem dX8_tapError_21 : decode cX8_tapError 21 = .ok (.sipush 900, 3) := by decide +kernel
theorem dX8_tapError_24 : decode cX8_tapError 24 = .ok (.invokestatic 140, 3) := by decide +kernel
theorem dX8_tapError_27 : decode cX8_tapError 27 = .ok (.ifCond .eq 7, 3) := by decide +kernel
theorem dX8_tapError_30 : decode cX8_tapError 30 = .ok (.iconst 1, 1) := by decide +kernel
theorem dX8_tapError_31 : decode cX8_tapError 31 = .ok (.goto 4, 3) := by decide +kernel
theorem dX8_tapError_34 : decode cX8_tapError 34 = .ok (.iconst 0, 1) := by decide +kernel
theorem dX8_tapError_35 : decode cX8_tapError 35 = .ok (.istore_n 3, 1) := by decide +kernel
theorem dX8_tapError_36 : decode cX8_tapError 36 = .ok (.iload_n 3, 1) := by decide +kernel
theorem dX8_tapError_37 : decode cX8_tapError 37 = .ok (.ifCond .eq 7, 3) := by decide +kernel
theorem dX8_tapError_40 : decode cX8_tapError 40 = .ok (.iconst 0, 1) := by decide +kernel
theorem dX8_tapError_41 : decode cX8_tapError 41 = .ok (.goto 5, 3) := by decide +kernel
theorem dX8_tapError_44 : decode cX8_tapError 44 = .ok (.ldc 79, 2) := by decide +kernel
theorem dX8_tapError_46 : decode cX8_tapError 46 = .ok (.ireturn, 1) := by decide +kernel
theorem dX8_feedbackError_0 : decode cX8_feedbackError 0 = .ok (.iload_n 0, 1) := by decide +kernel
theorem dX8_feedbackError_1 : decode cX8_feedbackError 1 = .ok (.iconst 1, 1) := by decide +kernel
theorem dX8_feedbackError_2 : decode cX8_feedbackError 2 = .ok (.bipush 64, 2) := by decide +kernel
theorem dX8_feedbackError_4 : decode cX8_feedbackError 4 = .ok (.invokestatic 140, 3) := by decide +kernel
theorem dX8_feedbackError_7 : decode cX8_feedbackError 7 = .ok (.ifCond .eq 18, 3) := by decide +kernel
theorem dX8_feedbackError_10 : decode cX8_feedbackError 10 = .ok (.iload_n 1, 1) := by decide +kernel
theorem dX8_feedbackError_11 : decode cX8_feedbackError 11 = .ok (.iconst 0, 1) := by decide +kernel
theorem dX8_feedbackError_12 : decode cX8_feedbackError 12 = .ok (.sipush 950, 3) := by decide +kernel
theorem dX8_feedbackError_15 : decode cX8_feedbackError 15 = .ok (.invokestatic 140, 3) := by decide +kernel
theorem dX8_feedbackError_18 : decode cX8_feedbackError 18 = .ok (.ifCond .eq 7, 3) := by decide +kernel
theorem dX8_feedbackError_21 : decode cX8_feedbackError 21 = .ok (.iconst 1, 1) := by decide +kernel
theorem dX8_feedbackError_22 : decode cX8_feedbackError 22 = .ok (.goto 4, 3) := by decide +kernel
theorem dX8_feedbackError_25 : decode cX8_feedbackError 25 = .ok (.iconst 0, 1) := by decide +kernel
theorem dX8_feedbackError_26 : decode cX8_feedbackError 26 = .ok (.istore_n 2, 1) := by decide +kernel
theorem dX8_feedbackError_27 : decode cX8_feedbackError 27 = .ok (.iload_n 2, 1) := by decide +kernel
theorem dX8_feedbackError_28 : decode cX8_feedbackError 28 = .ok (.ifCond .eq 7, 3) := by decide +kernel
theorem dX8_feedbackError_31 : decode cX8_feedbackError 31 = .ok (.iconst 0, 1) := by decide +kernel
theorem dX8_feedbackError_32 : decode cX8_feedbackError 32 = .ok (.goto 5, 3) := by decide +kernel
theorem dX8_feedbackError_35 : decode cX8_feedbackError 35 = .ok (.ldc 79, 2) := by decide +kernel
theorem dX8_feedbackError_37 : decode cX8_feedbackError 37 = .ok (.ireturn, 1) := by decide +kernel
theorem dX8_stealError_0 : decode cX8_stealError 0 = .ok (.iload_n 0, 1) := by decide +kernel
theorem dX8_stealError_1 : decode cX8_stealError 1 = .ok (.iconst 1, 1) := by decide +kernel
theorem dX8_stealError_2 : decode cX8_stealError 2 = .ok (.bipush 48, 2) := by decide +kernel
theorem dX8_stealError_4 : decode cX8_stealError 4 = .ok (.invokestatic 140, 3) := by decide +kernel
theorem dX8_stealError_7 : decode cX8_stealError 7 = .ok (.ifCond .ne 6, 3) := by decide +kernel
theorem dX8_stealError_10 : decode cX8_stealError 10 = .ok (.ldc 79, 2) := by decide +kernel
theorem dX8_stealError_12 : decode cX8_stealError 12 = .ok (.ireturn, 1) := by decide +kernel
theorem dX8_stealError_13 : decode cX8_stealError 13 = .ok (.iload_n 1, 1) := by decide +kernel
theorem dX8_stealError_14 : decode cX8_stealError 14 = .ok (.iload_n 0, 1) := by decide +kernel
theorem dX8_stealError_15 : decode cX8_stealError 15 = .ok (.iadd, 1) := by decide +kernel
theorem dX8_stealError_16 : decode cX8_stealError 16 = .ok (.bipush 48, 2) := by decide +kernel
theorem dX8_stealError_18 : decode cX8_stealError 18 = .ok (.if_icmp .le 8, 3) := by decide +kernel
theorem dX8_stealError_21 : decode cX8_stealError 21 = .ok (.ldc 227, 2) := by decide +kernel
theorem dX8_stealError_23 : decode cX8_stealError 23 = .ok (.goto 4, 3) := by decide +kernel
theorem dX8_stealError_26 : decode cX8_stealError 26 = .ok (.iconst 0, 1) := by decide +kernel
theorem dX8_stealError_27 : decode cX8_stealError 27 = .ok (.ireturn, 1) := by decide +kernel
theorem dX8_giveBackError_0 : decode cX8_giveBackError 0 = .ok (.iload_n 0, 1) := by decide +kernel
theorem dX8_giveBackError_1 : decode cX8_giveBackError 1 = .ok (.iconst 1, 1) := by decide +kernel
theorem dX8_giveBackError_2 : decode cX8_giveBackError 2 = .ok (.bipush 48, 2) := by decide +kernel
theorem dX8_giveBackError_4 : decode cX8_giveBackError 4 = .ok (.invokestatic 140, 3) := by decide +kernel
theorem dX8_giveBackError_7 : decode cX8_giveBackError 7 = .ok (.ifCond .ne 6, 3) := by decide +kernel
theorem dX8_giveBackError_10 : decode cX8_giveBackError 10 = .ok (.ldc 79, 2) := by decide +kernel
theorem dX8_giveBackError_12 : decode cX8_giveBackError 12 = .ok (.ireturn, 1) := by decide +kernel
theorem dX8_giveBackError_13 : decode cX8_giveBackError 13 = .ok (.iload_n 1, 1) := by decide +kernel
theorem dX8_giveBackError_14 : decode cX8_giveBackError 14 = .ok (.iload_n 0, 1) := by decide +kernel
theorem dX8_giveBackError_15 : decode cX8_giveBackError 15 = .ok (.if_icmp .ge 8, 3) := by decide +kernel
theorem dX8_giveBackError_18 : decode cX8_giveBackError 18 = .ok (.ldc 83, 2) := by decide +kernel
theorem dX8_giveBackError_20 : decode cX8_giveBackError 20 = .ok (.goto 4, 3) := by decide +kernel
theorem dX8_giveBackError_23 : decode cX8_giveBackError 23 = .ok (.iconst 0, 1) := by decide +kernel
theorem dX8_giveBackError_24 : decode cX8_giveBackError 24 = .ok (.ireturn, 1) := by decide +kernel
theorem dX8_thousandths_0 : decode cX8_thousandths 0 = .ok (.iload_n 0, 1) := by decide +kernel
theorem dX8_thousandths_1 : decode cX8_thousandths 1 = .ok (.iload_n 1, 1) := by decide +kernel
theorem dX8_thousandths_2 : decode cX8_thousandths 2 = .ok (.imul, 1) := by decide +kernel
theorem dX8_thousandths_3 : decode cX8_thousandths 3 = .ok (.sipush 1000, 3) := by decide +kernel
theorem dX8_thousandths_6 : decode cX8_thousandths 6 = .ok (.idiv, 1) := by decide +kernel
theorem dX8_thousandths_7 : decode cX8_thousandths 7 = .ok (.ireturn, 1) := by decide +kernel
theorem dX8_shaped_0 : decode cX8_shaped 0 = .ok (.iload_n 0, 1) := by decide +kernel
theorem dX8_shaped_1 : decode cX8_shaped 1 = .ok (.invokestatic 193, 3) := by decide +kernel
theorem dX8_shaped_4 : decode cX8_shaped 4 = .ok (.istore_n 3, 1) := by decide +kernel
theorem dX8_shaped_5 : decode cX8_shaped 5 = .ok (.iload_n 3, 1) := by decide +kernel
theorem dX8_shaped_6 : decode cX8_shaped 6 = .ok (.istore 4, 2) := by decide +kernel
theorem dX8_shaped_8 : decode cX8_shaped 8 = .ok (.iload_n 1, 1) := by decide +kernel
theorem dX8_shaped_9 : decode cX8_shaped 9 = .ok (.iconst 1, 1) := by decide +kernel
theorem dX8_shaped_10 : decode cX8_shaped 10 = .ok (.if_icmp .ne 32, 3) := by decide +kernel
theorem dX8_shaped_13 : decode cX8_shaped 13 = .ok (.iload_n 2, 1) := by decide +kernel
theorem dX8_shaped_14 : decode cX8_shaped 14 = .ok (.iconst 2, 1) := by decide +kernel
theorem dX8_shaped_15 : decode cX8_shaped 15 = .ok (.idiv, 1) := by decide +kernel
theorem dX8_shaped_16 : decode cX8_shaped 16 = .ok (.istore 5, 2) := by decide +kernel
theorem dX8_shaped_18 : decode cX8_shaped 18 = .ok (.iload_n 3, 1) := by decide +kernel
theorem dX8_shaped_19 : decode cX8_shaped 19 = .ok (.iload 5, 2) := by decide +kernel
theorem dX8_shaped_21 : decode cX8_shaped 21 = .ok (.if_icmp .le 18, 3) := by decide +kernel
theorem dX8_shaped_24 : decode cX8_shaped 24 = .ok (.iload 5, 2) := by decide +kernel
theorem dX8_shaped_26 : decode cX8_shaped 26 = .ok (.iload_n 3, 1) := by decide +kernel
theorem dX8_shaped_27 : decode cX8_shaped 27 = .ok (.iload 5, 2) := by decide +kernel
theorem dX8_shaped_29 : decode cX8_shaped 29 = .ok (.isub, 1) := by decide +kernel
theorem dX8_shaped_30 : decode cX8_shaped 30 = .ok (.iconst 2, 1) := by decide +kernel
theorem dX8_shaped_31 : decode cX8_shaped 31 = .ok (.idiv, 1) := by decide +kernel
theorem dX8_shaped_32 : decode cX8_shaped 32 = .ok (.iadd, 1) := by decide +kernel
theorem dX8_shaped_33 : decode cX8_shaped 33 = .ok (.iload_n 2, 1) := by decide +kernel
theorem dX8_shaped_34 : decode cX8_shaped 34 = .ok (.invokestatic 257, 3) := by decide +kernel
theorem dX8_shaped_37 : decode cX8_shaped 37 = .ok (.istore 4, 2) := by decide +kernel
theorem dX8_shaped_39 : decode cX8_shaped 39 = .ok (.goto 20, 3) := by decide +kernel
theorem dX8_shaped_42 : decode cX8_shaped 42 = .ok (.iload_n 3, 1) := by decide +kernel
theorem dX8_shaped_43 : decode cX8_shaped 43 = .ok (.iload_n 2, 1) := by decide +kernel
theorem dX8_shaped_44 : decode cX8_shaped 44 = .ok (.if_icmp .le 15, 3) := by decide +kernel
theorem dX8_shaped_47 : decode cX8_shaped 47 = .ok (.iload_n 1, 1) := by decide +kernel
theorem dX8_shaped_48 : decode cX8_shaped 48 = .ok (.iconst 2, 1) := by decide +kernel
theorem dX8_shaped_49 : decode cX8_shaped 49 = .ok (.if_icmp .ne 7, 3) := by decide +kernel
theorem dX8_shaped_52 : decode cX8_shaped 52 = .ok (.iconst 0, 1) := by decide +kernel
theorem dX8_shaped_53 : decode cX8_shaped 53 = .ok (.goto 4, 3) := by decide +kernel
theorem dX8_shaped_56 : decode cX8_shaped 56 = .ok (.iload_n 2, 1) := by decide +kernel
theorem dX8_shaped_57 : decode cX8_shaped 57 = .ok (.istore 4, 2) := by decide +kernel
theorem dX8_shaped_59 : decode cX8_shaped 59 = .ok (.iload_n 0, 1) := by decide +kernel
theorem dX8_shaped_60 : decode cX8_shaped 60 = .ok (.ifCond .ge 9, 3) := by decide +kernel
theorem dX8_shaped_63 : decode cX8_shaped 63 = .ok (.iload 4, 2) := by decide +kernel
theorem dX8_shaped_65 : decode cX8_shaped 65 = .ok (.ineg, 1) := by decide +kernel
theorem dX8_shaped_66 : decode cX8_shaped 66 = .ok (.goto 5, 3) := by decide +kernel
theorem dX8_shaped_69 : decode cX8_shaped 69 = .ok (.iload 4, 2) := by decide +kernel
theorem dX8_shaped_71 : decode cX8_shaped 71 = .ok (.ireturn, 1) := by decide +kernel
theorem dX8_tapsOn_0 : decode cX8_tapsOn 0 = .ok (.iconst 0, 1) := by decide +kernel
theorem dX8_tapsOn_1 : decode cX8_tapsOn 1 = .ok (.istore_n 1, 1) := by decide +kernel
theorem dX8_tapsOn_2 : decode cX8_tapsOn 2 = .ok (.iconst 0, 1) := by decide +kernel
theorem dX8_tapsOn_3 : decode cX8_tapsOn 3 = .ok (.istore_n 2, 1) := by decide +kernel
theorem dX8_tapsOn_4 : decode cX8_tapsOn 4 = .ok (.iload_n 2, 1) := by decide +kernel
theorem dX8_tapsOn_5 : decode cX8_tapsOn 5 = .ok (.iconst 4, 1) := by decide +kernel
theorem dX8_tapsOn_6 : decode cX8_tapsOn 6 = .ok (.if_icmp .ge 28, 3) := by decide +kernel
theorem dX8_tapsOn_9 : decode cX8_tapsOn 9 = .ok (.iload_n 1, 1) := by decide +kernel
theorem dX8_tapsOn_10 : decode cX8_tapsOn 10 = .ok (.aload_n 0, 1) := by decide +kernel
theorem dX8_tapsOn_11 : decode cX8_tapsOn 11 = .ok (.getfield 10, 3) := by decide +kernel
theorem dX8_tapsOn_14 : decode cX8_tapsOn 14 = .ok (.iload_n 2, 1) := by decide +kernel
theorem dX8_tapsOn_15 : decode cX8_tapsOn 15 = .ok (.invokevirtual 80, 3) := by decide +kernel
theorem dX8_tapsOn_18 : decode cX8_tapsOn 18 = .ok (.ifCond .eq 7, 3) := by decide +kernel
theorem dX8_tapsOn_21 : decode cX8_tapsOn 21 = .ok (.iconst 1, 1) := by decide +kernel
theorem dX8_tapsOn_22 : decode cX8_tapsOn 22 = .ok (.goto 4, 3) := by decide +kernel
theorem dX8_tapsOn_25 : decode cX8_tapsOn 25 = .ok (.iconst 0, 1) := by decide +kernel
theorem dX8_tapsOn_26 : decode cX8_tapsOn 26 = .ok (.iadd, 1) := by decide +kernel
theorem dX8_tapsOn_27 : decode cX8_tapsOn 27 = .ok (.istore_n 1, 1) := by decide +kernel
theorem dX8_tapsOn_28 : decode cX8_tapsOn 28 = .ok (.iinc 2 1, 3) := by decide +kernel
theorem dX8_tapsOn_31 : decode cX8_tapsOn 31 = .ok (.goto (-27), 3) := by decide +kernel
theorem dX8_tapsOn_34 : decode cX8_tapsOn 34 = .ok (.iload_n 1, 1) := by decide +kernel
theorem dX8_tapsOn_35 : decode cX8_tapsOn 35 = .ok (.ireturn, 1) := by decide +kernel
theorem dX8_tapsLost_0 : decode cX8_tapsLost 0 = .ok (.iconst 0, 1) := by decide +kernel
theorem dX8_tapsLost_1 : decode cX8_tapsLost 1 = .ok (.istore_n 1, 1) := by decide +kernel
theorem dX8_tapsLost_2 : decode cX8_tapsLost 2 = .ok (.iconst 0, 1) := by decide +kernel
theorem dX8_tapsLost_3 : decode cX8_tapsLost 3 = .ok (.istore_n 2, 1) := by decide +kernel
theorem dX8_tapsLost_4 : decode cX8_tapsLost 4 = .ok (.iload_n 2, 1) := by decide +kernel
theorem dX8_tapsLost_5 : decode cX8_tapsLost 5 = .ok (.iconst 4, 1) := by decide +kernel
theorem dX8_tapsLost_6 : decode cX8_tapsLost 6 = .ok (.if_icmp .ge 39, 3) := by decide +kernel
theorem dX8_tapsLost_9 : decode cX8_tapsLost 9 = .ok (.iload_n 1, 1) := by decide +kernel
theorem dX8_tapsLost_10 : decode cX8_tapsLost 10 = .ok (.aload_n 0, 1) := by decide +kernel
theorem dX8_tapsLost_11 : decode cX8_tapsLost 11 = .ok (.getfield 10, 3) := by decide +kernel
theorem dX8_tapsLost_14 : decode cX8_tapsLost 14 = .ok (.iload_n 2, 1) := by decide +kernel
theorem dX8_tapsLost_15 : decode cX8_tapsLost 15 = .ok (.invokevirtual 80, 3) := by decide +kernel
theorem dX8_tapsLost_18 : decode cX8_tapsLost 18 = .ok (.ifCond .eq 18, 3) := by decide +kernel
theorem dX8_tapsLost_21 : decode cX8_tapsLost 21 = .ok (.aload_n 0, 1) := by decide +kernel
theorem dX8_tapsLost_22 : decode cX8_tapsLost 22 = .ok (.getfield 10, 3) := by decide +kernel
theorem dX8_tapsLost_25 : decode cX8_tapsLost 25 = .ok (.iload_n 2, 1) := by decide +kernel
theorem dX8_tapsLost_26 : decode cX8_tapsLost 26 = .ok (.invokevirtual 72, 3) := by decide +kernel
theorem dX8_tapsLost_29 : decode cX8_tapsLost 29 = .ok (.ifCond .eq 7, 3) := by decide +kernel
theorem dX8_tapsLost_32 : decode cX8_tapsLost 32 = .ok (.iconst 1, 1) := by decide +kernel
theorem dX8_tapsLost_33 : decode cX8_tapsLost 33 = .ok (.goto 4, 3) := by decide +kernel
theorem dX8_tapsLost_36 : decode cX8_tapsLost 36 = .ok (.iconst 0, 1) := by decide +kernel
theorem dX8_tapsLost_37 : decode cX8_tapsLost 37 = .ok (.iadd, 1) := by decide +kernel
theorem dX8_tapsLost_38 : decode cX8_tapsLost 38 = .ok (.istore_n 1, 1) := by decide +kernel
theorem dX8_tapsLost_39 : decode cX8_tapsLost 39 = .ok (.iinc 2 1, 3) := by decide +kernel
theorem dX8_tapsLost_42 : decode cX8_tapsLost 42 = .ok (.goto (-38), 3) := by decide +kernel
theorem dX8_tapsLost_45 : decode cX8_tapsLost 45 = .ok (.iload_n 1, 1) := by decide +kernel
theorem dX8_tapsLost_46 : decode cX8_tapsLost 46 = .ok (.ireturn, 1) := by decide +kernel
theorem dJ9_floorMod_7cf53_0 : decode cJ9_floorMod_7cf53 0 = .ok (.iload_n 0, 1) := by decide +kernel
theorem dJ9_floorMod_7cf53_1 : decode cJ9_floorMod_7cf53 1 = .ok (.iload_n 1, 1) := by decide +kernel
theorem dJ9_floorMod_7cf53_2 : decode cJ9_floorMod_7cf53 2 = .ok (.irem, 1) := by decide +kernel
theorem dJ9_floorMod_7cf53_3 : decode cJ9_floorMod_7cf53 3 = .ok (.istore_n 2, 1) := by decide +kernel
theorem dJ9_floorMod_7cf53_4 : decode cJ9_floorMod_7cf53 4 = .ok (.iload_n 0, 1) := by decide +kernel
theorem dJ9_floorMod_7cf53_5 : decode cJ9_floorMod_7cf53 5 = .ok (.iload_n 1, 1) := by decide +kernel
theorem dJ9_floorMod_7cf53_6 : decode cJ9_floorMod_7cf53 6 = .ok (.ixor, 1) := by decide +kernel
theorem dJ9_floorMod_7cf53_7 : decode cJ9_floorMod_7cf53 7 = .ok (.ifCond .ge 11, 3) := by decide +kernel
theorem dJ9_floorMod_7cf53_10 : decode cJ9_floorMod_7cf53 10 = .ok (.iload_n 2, 1) := by decide +kernel
theorem dJ9_floorMod_7cf53_11 : decode cJ9_floorMod_7cf53 11 = .ok (.ifCond .eq 7, 3) := by decide +kernel
theorem dJ9_floorMod_7cf53_14 : decode cJ9_floorMod_7cf53 14 = .ok (.iload_n 2, 1) := by decide +kernel
theorem dJ9_floorMod_7cf53_15 : decode cJ9_floorMod_7cf53 15 = .ok (.iload_n 1, 1) := by decide +kernel
theorem dJ9_floorMod_7cf53_16 : decode cJ9_floorMod_7cf53 16 = .ok (.iadd, 1) := by decide +kernel
theorem dJ9_floorMod_7cf53_17 : decode cJ9_floorMod_7cf53 17 = .ok (.ireturn, 1) := by decide +kernel
theorem dJ9_floorMod_7cf53_18 : decode cJ9_floorMod_7cf53 18 = .ok (.iload_n 2, 1) := by decide +kernel
theorem dJ9_floorMod_7cf53_19 : decode cJ9_floorMod_7cf53 19 = .ok (.ireturn, 1) := by decide +kernel
theorem dJ9_abs_0f7a4_0 : decode cJ9_abs_0f7a4 0 = .ok (.iload_n 0, 1) := by decide +kernel
theorem dJ9_abs_0f7a4_1 : decode cJ9_abs_0f7a4 1 = .ok (.ifCond .ge 8, 3) := by decide +kernel
theorem dJ9_abs_0f7a4_4 : decode cJ9_abs_0f7a4 4 = .ok (.iload_n 0, 1) := by decide +kernel
theorem dJ9_abs_0f7a4_5 : decode cJ9_abs_0f7a4 5 = .ok (.ineg, 1) := by decide +kernel
theorem dJ9_abs_0f7a4_6 : decode cJ9_abs_0f7a4 6 = .ok (.goto 4, 3) := by decide +kernel
theorem dJ9_abs_0f7a4_9 : decode cJ9_abs_0f7a4 9 = .ok (.iload_n 0, 1) := by decide +kernel
theorem dJ9_abs_0f7a4_10 : decode cJ9_abs_0f7a4 10 = .ok (.ireturn, 1) := by decide +kernel
theorem dJ9_max_7cf53_0 : decode cJ9_max_7cf53 0 = .ok (.iload_n 0, 1) := by decide +kernel
theorem dJ9_max_7cf53_1 : decode cJ9_max_7cf53 1 = .ok (.iload_n 1, 1) := by decide +kernel
theorem dJ9_max_7cf53_2 : decode cJ9_max_7cf53 2 = .ok (.if_icmp .lt 7, 3) := by decide +kernel
theorem dJ9_max_7cf53_5 : decode cJ9_max_7cf53 5 = .ok (.iload_n 0, 1) := by decide +kernel
theorem dJ9_max_7cf53_6 : decode cJ9_max_7cf53 6 = .ok (.goto 4, 3) := by decide +kernel
theorem dJ9_max_7cf53_9 : decode cJ9_max_7cf53 9 = .ok (.iload_n 1, 1) := by decide +kernel
theorem dJ9_max_7cf53_10 : decode cJ9_max_7cf53 10 = .ok (.ireturn, 1) := by decide +kernel
theorem dJ9_min_7cf53_0 : decode cJ9_min_7cf53 0 = .ok (.iload_n 0, 1) := by decide +kernel
theorem dJ9_min_7cf53_1 : decode cJ9_min_7cf53 1 = .ok (.iload_n 1, 1) := by decide +kernel
theorem dJ9_min_7cf53_2 : decode cJ9_min_7cf53 2 = .ok (.if_icmp .gt 7, 3) := by decide +kernel
theorem dJ9_min_7cf53_5 : decode cJ9_min_7cf53 5 = .ok (.iload_n 0, 1) := by decide +kernel
theorem dJ9_min_7cf53_6 : decode cJ9_min_7cf53 6 = .ok (.goto 4, 3) := by decide +kernel
theorem dJ9_min_7cf53_9 : decode cJ9_min_7cf53 9 = .ok (.iload_n 1, 1) := by decide +kernel
theorem dJ9_min_7cf53_10 : decode cJ9_min_7cf53 10 = .ok (.ireturn, 1) := by decide +kernel
theorem dL_cell_0 : decode cL_cell 0 = .ok (.iload_n 1, 1) := by decide +kernel
theorem dL_cell_1 : decode cL_cell 1 = .ok (.aload_n 0, 1) := by decide +kernel
theorem dL_cell_2 : decode cL_cell 2 = .ok (.arraylength, 1) := by decide +kernel
theorem dL_cell_3 : decode cL_cell 3 = .ok (.if_icmp .ge 9, 3) := by decide +kernel
theorem dL_cell_6 : decode cL_cell 6 = .ok (.aload_n 0, 1) := by decide +kernel
theorem dL_cell_7 : decode cL_cell 7 = .ok (.iload_n 1, 1) := by decide +kernel
theorem dL_cell_8 : decode cL_cell 8 = .ok (.iaload, 1) := by decide +kernel
theorem dL_cell_9 : decode cL_cell 9 = .ok (.goto 15, 3) := by decide +kernel
theorem dL_cell_12 : decode cL_cell 12 = .ok (.sipush 27191, 3) := by decide +kernel
theorem dL_cell_15 : decode cL_cell 15 = .ok (.iload_n 1, 1) := by decide +kernel
theorem dL_cell_16 : decode cL_cell 16 = .ok (.sipush 4096, 3) := by decide +kernel
theorem dL_cell_19 : decode cL_cell 19 = .ok (.irem, 1) := by decide +kernel
theorem dL_cell_20 : decode cL_cell 20 = .ok (.imul, 1) := by decide +kernel
theorem dL_cell_21 : decode cL_cell 21 = .ok (.bipush 113, 2) := by decide +kernel
theorem dL_cell_23 : decode cL_cell 23 = .ok (.iadd, 1) := by decide +kernel
theorem dL_cell_24 : decode cL_cell 24 = .ok (.ldc 7, 2) := by decide +kernel
theorem dL_cell_26 : decode cL_cell 26 = .ok (.iand, 1) := by decide +kernel
theorem dL_cell_27 : decode cL_cell 27 = .ok (.ireturn, 1) := by decide +kernel
theorem dL_isThere_0 : decode cL_isThere 0 = .ok (.aload_n 0, 1) := by decide +kernel
theorem dL_isThere_1 : decode cL_isThere 1 = .ok (.iconst 0, 1) := by decide +kernel
theorem dL_isThere_2 : decode cL_isThere 2 = .ok (.invokevirtual 8, 3) := by decide +kernel
theorem dL_isThere_5 : decode cL_isThere 5 = .ok (.iload_n 2, 1) := by decide +kernel
theorem dL_isThere_6 : decode cL_isThere 6 = .ok (.if_icmp .ne 19, 3) := by decide +kernel
theorem dL_isThere_9 : decode cL_isThere 9 = .ok (.aload_n 0, 1) := by decide +kernel
theorem dL_isThere_10 : decode cL_isThere 10 = .ok (.iconst 1, 1) := by decide +kernel
theorem dL_isThere_11 : decode cL_isThere 11 = .ok (.invokevirtual 8, 3) := by decide +kernel
theorem dL_isThere_14 : decode cL_isThere 14 = .ok (.bipush 64, 2) := by decide +kernel
theorem dL_isThere_16 : decode cL_isThere 16 = .ok (.iload_n 2, 1) := by decide +kernel
theorem dL_isThere_17 : decode cL_isThere 17 = .ok (.isub, 1) := by decide +kernel
theorem dL_isThere_18 : decode cL_isThere 18 = .ok (.if_icmp .ne 7, 3) := by decide +kernel
theorem dL_isThere_21 : decode cL_isThere 21 = .ok (.iconst 1, 1) := by decide +kernel
theorem dL_isThere_22 : decode cL_isThere 22 = .ok (.goto 4, 3) := by decide +kernel
theorem dL_isThere_25 : decode cL_isThere 25 = .ok (.iconst 0, 1) := by decide +kernel
theorem dL_isThere_26 : decode cL_isThere 26 = .ok (.istore_n 3, 1) := by decide +kernel
theorem dL_isThere_27 : decode cL_isThere 27 = .ok (.iconst 0, 1) := by decide +kernel
theorem dL_isThere_28 : decode cL_isThere 28 = .ok (.istore 4, 2) := by decide +kernel
theorem dL_isThere_30 : decode cL_isThere 30 = .ok (.iconst 0, 1) := by decide +kernel
theorem dL_isThere_31 : decode cL_isThere 31 = .ok (.istore 5, 2) := by decide +kernel
theorem dL_isThere_33 : decode cL_isThere 33 = .ok (.iconst 0, 1) := by decide +kernel
theorem dL_isThere_34 : decode cL_isThere 34 = .ok (.istore 6, 2) := by decide +kernel
theorem dL_isThere_36 : decode cL_isThere 36 = .ok (.iload 6, 2) := by decide +kernel
theorem dL_isThere_38 : decode cL_isThere 38 = .ok (.bipush 64, 2) := by decide +kernel
theorem dL_isThere_40 : decode cL_isThere 40 = .ok (.if_icmp .ge 100, 3) := by decide +kernel
theorem dL_isThere_43 : decode cL_isThere 43 = .ok (.iload_n 3, 1) := by decide +kernel
theorem dL_isThere_44 : decode cL_isThere 44 = .ok (.ifCond .eq 96, 3) := by decide +kernel
theorem dL_isThere_47 : decode cL_isThere 47 = .ok (.aload_n 0, 1) := by decide +kernel
theorem dL_isThere_48 : decode cL_isThere 48 = .ok (.iload 6, 2) := by decide +kernel
theorem dL_isThere_50 : decode cL_isThere 50 = .ok (.invokevirtual 14, 3) := by decide +kernel
theorem dL_isThere_53 : decode cL_isThere 53 = .ok (.iload 6, 2) := by decide +kernel
theorem dL_isThere_55 : decode cL_isThere 55 = .ok (.iload_n 2, 1) := by decide +kernel
theorem dL_isThere_56 : decode cL_isThere 56 = .ok (.if_icmp .ge 10, 3) := by decide +kernel
theorem dL_isThere_59 : decode cL_isThere 59 = .ok (.aload_n 1, 1) := by decide +kernel
theorem dL_isThere_60 : decode cL_isThere 60 = .ok (.iload 6, 2) := by decide +kernel
theorem dL_isThere_62 : decode cL_isThere 62 = .ok (.iaload, 1) := by decide +kernel
theorem dL_isThere_63 : decode cL_isThere 63 = .ok (.goto 5, 3) := by decide +kernel
theorem dL_isThere_66 : decode cL_isThere 66 = .ok (.ldc 17, 2) := by decide +kernel
theorem dL_isThere_68 : decode cL_isThere 68 = .ok (.if_icmp .ne 7, 3) := by decide +kernel
theorem dL_isThere_71 : decode cL_isThere 71 = .ok (.iconst 1, 1) := by decide +kernel
theorem dL_isThere_72 : decode cL_isThere 72 = .ok (.goto 4, 3) := by decide +kernel
theorem dL_isThere_75 : decode cL_isThere 75 = .ok (.iconst 0, 1) := by decide +kernel
theorem dL_isThere_76 : decode cL_isThere 76 = .ok (.istore_n 3, 1) := by decide +kernel
theorem dL_isThere_77 : decode cL_isThere 77 = .ok (.iload 4, 2) := by decide +kernel
theorem dL_isThere_79 : decode cL_isThere 79 = .ok (.iload 6, 2) := by decide +kernel
theorem dL_isThere_81 : decode cL_isThere 81 = .ok (.iload_n 2, 1) := by decide +kernel
theorem dL_isThere_82 : decode cL_isThere 82 = .ok (.if_icmp .ge 25, 3) := by decide +kernel
theorem dL_isThere_85 : decode cL_isThere 85 = .ok (.aload_n 1, 1) := by decide +kernel
theorem dL_isThere_86 : decode cL_isThere 86 = .ok (.iload 6, 2) := by decide +kernel
theorem dL_isThere_88 : decode cL_isThere 88 = .ok (.iaload, 1) := by decide +kernel
theorem dL_isThere_89 : decode cL_isThere 89 = .ok (.ifCond .ge 11, 3) := by decide +kernel
theorem dL_isThere_92 : decode cL_isThere 92 = .ok (.aload_n 1, 1) := by decide +kernel
theorem dL_isThere_93 : decode cL_isThere 93 = .ok (.iload 6, 2) := by decide +kernel
theorem dL_isThere_95 : decode cL_isThere 95 = .ok (.iaload, 1) := by decide +kernel
theorem dL_isThere_96 : decode cL_isThere 96 = .ok (.ineg, 1) := by decide +kernel
theorem dL_isThere_97 : decode cL_isThere 97 = .ok (.goto 11, 3) := by decide +kernel
theorem dL_isThere_100 : decode cL_isThere 100 = .ok (.aload_n 1, 1) := by decide +kernel
theorem dL_isThere_101 : decode cL_isThere 101 = .ok (.iload 6, 2) := by decide +kernel
theorem dL_isThere_103 : decode cL_isThere 103 = .ok (.iaload, 1) := by decide +kernel
theorem dL_isThere_104 : decode cL_isThere 104 = .ok (.goto 4, 3) := by decide +kernel
theorem dL_isThere_107 : decode cL_isThere 107 = .ok (.iconst 0, 1) := by decide +kernel
theorem dL_isThere_108 : decode cL_isThere 108 = .ok (.iadd, 1) := by decide +kernel
theorem dL_isThere_109 : decode cL_isThere 109 = .ok (.istore 4, 2) := by decide +kernel
theorem dL_isThere_111 : decode cL_isThere 111 = .ok (.iload 5, 2) := by decide +kernel
theorem dL_isThere_113 : decode cL_isThere 113 = .ok (.iload 6, 2) := by decide +kernel
theorem dL_isThere_115 : decode cL_isThere 115 = .ok (.iload_n 2, 1) := by decide +kernel
theorem dL_isThere_116 : decode cL_isThere 116 = .ok (.if_icmp .ge 14, 3) := by decide +kernel
theorem dL_isThere_119 : decode cL_isThere 119 = .ok (.aload_n 1, 1) := by decide +kernel
theorem dL_isThere_120 : decode cL_isThere 120 = .ok (.iload 6, 2) := by decide +kernel
theorem dL_isThere_122 : decode cL_isThere 122 = .ok (.iaload, 1) := by decide +kernel
theorem dL_isThere_123 : decode cL_isThere 123 = .ok (.ifCond .eq 7, 3) := by decide +kernel
theorem dL_isThere_126 : decode cL_isThere 126 = .ok (.iconst 1, 1) := by decide +kernel
theorem dL_isThere_127 : decode cL_isThere 127 = .ok (.goto 4, 3) := by decide +kernel
theorem dL_isThere_130 : decode cL_isThere 130 = .ok (.iconst 0, 1) := by decide +kernel
theorem dL_isThere_131 : decode cL_isThere 131 = .ok (.iadd, 1) := by decide +kernel
theorem dL_isThere_132 : decode cL_isThere 132 = .ok (.istore 5, 2) := by decide +kernel
theorem dL_isThere_134 : decode cL_isThere 134 = .ok (.iinc 6 1, 3) := by decide +kernel
theorem dL_isThere_137 : decode cL_isThere 137 = .ok (.goto (-101), 3) := by decide +kernel
theorem dL_isThere_140 : decode cL_isThere 140 = .ok (.iload_n 3, 1) := by decide +kernel
theorem dL_isThere_141 : decode cL_isThere 141 = .ok (.ifCond .eq 27, 3) := by decide +kernel
theorem dL_isThere_144 : decode cL_isThere 144 = .ok (.aload_n 0, 1) := by decide +kernel
