theorem dX0_init_0 : decode cX0_init 0 = .ok (.aload_n 0, 1) := by decide +kernel
theorem dX0_init_1 : decode cX0_init 1 = .ok (.invokespecial 3, 3) := by decide +kernel
theorem dX0_init_4 : decode cX0_init 4 = .ok (.aload_n 0, 1) := by decide +kernel
theorem dX0_init_5 : decode cX0_init 5 = .ok (.sipush 180, 3) := by decide +kernel
theorem dX0_init_8 : decode cX0_init 8 = .ok (.newarray .int, 2) := by decide +kernel
theorem dX0_init_10 : decode cX0_init 10 = .ok (.putfield 9, 3) := by decide +kernel
theorem dX0_init_13 : decode cX0_init 13 = .ok (.aload_n 0, 1) := by decide +kernel
theorem dX0_init_14 : decode cX0_init 14 = .ok (.sipush 180, 3) := by decide +kernel
theorem dX0_init_17 : decode cX0_init 17 = .ok (.newarray .int, 2) := by decide +kernel
theorem dX0_init_19 : decode cX0_init 19 = .ok (.putfield 15, 3) := by decide +kernel
theorem dX0_init_22 : decode cX0_init 22 = .ok (.return_, 1) := by decide +kernel
theorem dX0_letPass_0 : decode cX0_letPass 0 = .ok (.iconst 0, 1) := by decide +kernel
theorem dX0_letPass_1 : decode cX0_letPass 1 = .ok (.istore_n 3, 1) := by decide +kernel
theorem dX0_letPass_2 : decode cX0_letPass 2 = .ok (.iconst 0, 1) := by decide +kernel
theorem dX0_letPass_3 : decode cX0_letPass 3 = .ok (.istore 4, 2) := by decide +kernel
theorem dX0_letPass_5 : decode cX0_letPass 5 = .ok (.iload 4, 2) := by decide +kernel
theorem dX0_letPass_7 : decode cX0_letPass 7 = .ok (.iload_n 2, 1) := by decide +kernel
theorem dX0_letPass_8 : decode cX0_letPass 8 = .ok (.if_icmp .ge 28, 3) := by decide +kernel
theorem dX0_letPass_11 : decode cX0_letPass 11 = .ok (.aload_n 1, 1) := by decide +kernel
theorem dX0_letPass_12 : decode cX0_letPass 12 = .ok (.invokevirtual 18, 3) := by decide +kernel
theorem dX0_letPass_15 : decode cX0_letPass 15 = .ok (.ifCond .le 21, 3) := by decide +kernel
theorem dX0_letPass_18 : decode cX0_letPass 18 = .ok (.iload_n 3, 1) := by decide +kernel
theorem dX0_letPass_19 : decode cX0_letPass 19 = .ok (.aload_n 0, 1) := by decide +kernel
theorem dX0_letPass_20 : decode cX0_letPass 20 = .ok (.aload_n 1, 1) := by decide +kernel
theorem dX0_letPass_21 : decode cX0_letPass 21 = .ok (.invokevirtual 24, 3) := by decide +kernel
theorem dX0_letPass_24 : decode cX0_letPass 24 = .ok (.iadd, 1) := by decide +kernel
theorem dX0_letPass_25 : decode cX0_letPass 25 = .ok (.istore_n 3, 1) := by decide +kernel
theorem dX0_letPass_26 : decode cX0_letPass 26 = .ok (.aload_n 1, 1) := by decide +kernel
theorem dX0_letPass_27 : decode cX0_letPass 27 = .ok (.invokestatic 28, 3) := by decide +kernel
theorem dX0_letPass_30 : decode cX0_letPass 30 = .ok (.iinc 4 1, 3) := by decide +kernel
theorem dX0_letPass_33 : decode cX0_letPass 33 = .ok (.goto (-28), 3) := by decide +kernel
theorem dX0_letPass_36 : decode cX0_letPass 36 = .ok (.aload_n 1, 1) := by decide +kernel
theorem dX0_letPass_37 : decode cX0_letPass 37 = .ok (.dup, 1) := by decide +kernel
theorem dX0_letPass_38 : decode cX0_letPass 38 = .ok (.getfield 32, 3) := by decide +kernel
theorem dX0_letPass_41 : decode cX0_letPass 41 = .ok (.iload_n 2, 1) := by decide +kernel
theorem dX0_letPass_42 : decode cX0_letPass 42 = .ok (.iadd, 1) := by decide +kernel
theorem dX0_letPass_43 : decode cX0_letPass 43 = .ok (.putfield 32, 3) := by decide +kernel
theorem dX0_letPass_46 : decode cX0_letPass 46 = .ok (.iload_n 3, 1) := by decide +kernel
theorem dX0_letPass_47 : decode cX0_letPass 47 = .ok (.ireturn, 1) := by decide +kernel
theorem dX0_bleedOnce_0 : decode cX0_bleedOnce 0 = .ok (.iconst 0, 1) := by decide +kernel
theorem dX0_bleedOnce_1 : decode cX0_bleedOnce 1 = .ok (.istore_n 2, 1) := by decide +kernel
theorem dX0_bleedOnce_2 : decode cX0_bleedOnce 2 = .ok (.aload_n 1, 1) := by decide +kernel
theorem dX0_bleedOnce_3 : decode cX0_bleedOnce 3 = .ok (.getfield 36, 3) := by decide +kernel
theorem dX0_bleedOnce_6 : decode cX0_bleedOnce 6 = .ok (.iconst 0, 1) := by decide +kernel
theorem dX0_bleedOnce_7 : decode cX0_bleedOnce 7 = .ok (.aload_n 0, 1) := by decide +kernel
theorem dX0_bleedOnce_8 : decode cX0_bleedOnce 8 = .ok (.getfield 9, 3) := by decide +kernel
theorem dX0_bleedOnce_11 : decode cX0_bleedOnce 11 = .ok (.iconst 0, 1) := by decide +kernel
theorem dX0_bleedOnce_12 : decode cX0_bleedOnce 12 = .ok (.sipush 180, 3) := by decide +kernel
theorem dX0_bleedOnce_15 : decode cX0_bleedOnce 15 = .ok (.invokestatic 39, 3) := by decide +kernel
theorem dX0_bleedOnce_18 : decode cX0_bleedOnce 18 = .ok (.aload_n 1, 1) := by decide +kernel
theorem dX0_bleedOnce_19 : decode cX0_bleedOnce 19 = .ok (.getfield 45, 3) := by decide +kernel
theorem dX0_bleedOnce_22 : decode cX0_bleedOnce 22 = .ok (.iconst 0, 1) := by decide +kernel
theorem dX0_bleedOnce_23 : decode cX0_bleedOnce 23 = .ok (.aload_n 0, 1) := by decide +kernel
theorem dX0_bleedOnce_24 : decode cX0_bleedOnce 24 = .ok (.getfield 15, 3) := by decide +kernel
theorem dX0_bleedOnce_27 : decode cX0_bleedOnce 27 = .ok (.iconst 0, 1) := by decide +kernel
theorem dX0_bleedOnce_28 : decode cX0_bleedOnce 28 = .ok (.sipush 180, 3) := by decide +kernel
theorem dX0_bleedOnce_31 : decode cX0_bleedOnce 31 = .ok (.invokestatic 39, 3) := by decide +kernel
theorem dX0_bleedOnce_34 : decode cX0_bleedOnce 34 = .ok (.iconst 0, 1) := by decide +kernel
theorem dX0_bleedOnce_35 : decode cX0_bleedOnce 35 = .ok (.istore_n 3, 1) := by decide +kernel
theorem dX0_bleedOnce_36 : decode cX0_bleedOnce 36 = .ok (.iload_n 3, 1) := by decide +kernel
theorem dX0_bleedOnce_37 : decode cX0_bleedOnce 37 = .ok (.aload_n 1, 1) := by decide +kernel
theorem dX0_bleedOnce_38 : decode cX0_bleedOnce 38 = .ok (.getfield 48, 3) := by decide +kernel
theorem dX0_bleedOnce_41 : decode cX0_bleedOnce 41 = .ok (.if_icmp .ge 63, 3) := by decide +kernel
theorem dX0_bleedOnce_44 : decode cX0_bleedOnce 44 = .ok (.aload_n 1, 1) := by decide +kernel
theorem dX0_bleedOnce_45 : decode cX0_bleedOnce 45 = .ok (.iload_n 3, 1) := by decide +kernel
theorem dX0_bleedOnce_46 : decode cX0_bleedOnce 46 = .ok (.invokevirtual 51, 3) := by decide +kernel
theorem dX0_bleedOnce_49 : decode cX0_bleedOnce 49 = .ok (.istore 4, 2) := by decide +kernel
theorem dX0_bleedOnce_51 : decode cX0_bleedOnce 51 = .ok (.iload 4, 2) := by decide +kernel
theorem dX0_bleedOnce_53 : decode cX0_bleedOnce 53 = .ok (.aload_n 1, 1) := by decide +kernel
theorem dX0_bleedOnce_54 : decode cX0_bleedOnce 54 = .ok (.iload_n 3, 1) := by decide +kernel
theorem dX0_bleedOnce_55 : decode cX0_bleedOnce 55 = .ok (.invokevirtual 55, 3) := by decide +kernel
theorem dX0_bleedOnce_58 : decode cX0_bleedOnce 58 = .ok (.if_icmp .gt 40, 3) := by decide +kernel
theorem dX0_bleedOnce_61 : decode cX0_bleedOnce 61 = .ok (.aload_n 1, 1) := by decide +kernel
theorem dX0_bleedOnce_62 : decode cX0_bleedOnce 62 = .ok (.iload 4, 2) := by decide +kernel
theorem dX0_bleedOnce_64 : decode cX0_bleedOnce 64 = .ok (.iload_n 3, 1) := by decide +kernel
theorem dX0_bleedOnce_65 : decode cX0_bleedOnce 65 = .ok (.invokevirtual 58, 3) := by decide +kernel
theorem dX0_bleedOnce_68 : decode cX0_bleedOnce 68 = .ok (.istore 5, 2) := by decide +kernel
theorem dX0_bleedOnce_70 : decode cX0_bleedOnce 70 = .ok (.iload 5, 2) := by decide +kernel
theorem dX0_bleedOnce_72 : decode cX0_bleedOnce 72 = .ok (.ifCond .lt 20, 3) := by decide +kernel
theorem dX0_bleedOnce_75 : decode cX0_bleedOnce 75 = .ok (.aload_n 0, 1) := by decide +kernel
theorem dX0_bleedOnce_76 : decode cX0_bleedOnce 76 = .ok (.aload_n 1, 1) := by decide +kernel
theorem dX0_bleedOnce_77 : decode cX0_bleedOnce 77 = .ok (.aload_n 1, 1) := by decide +kernel
theorem dX0_bleedOnce_78 : decode cX0_bleedOnce 78 = .ok (.iload 4, 2) := by decide +kernel
theorem dX0_bleedOnce_80 : decode cX0_bleedOnce 80 = .ok (.iload_n 3, 1) := by decide +kernel
theorem dX0_bleedOnce_81 : decode cX0_bleedOnce 81 = .ok (.invokevirtual 62, 3) := by decide +kernel
theorem dX0_bleedOnce_84 : decode cX0_bleedOnce 84 = .ok (.iload 5, 2) := by decide +kernel
theorem dX0_bleedOnce_86 : decode cX0_bleedOnce 86 = .ok (.invokevirtual 65, 3) := by decide +kernel
theorem dX0_bleedOnce_89 : decode cX0_bleedOnce 89 = .ok (.iinc 2 1, 3) := by decide +kernel
theorem dX0_bleedOnce_92 : decode cX0_bleedOnce 92 = .ok (.iinc 4 1, 3) := by decide +kernel
theorem dX0_bleedOnce_95 : decode cX0_bleedOnce 95 = .ok (.goto (-44), 3) := by decide +kernel
theorem dX0_bleedOnce_98 : decode cX0_bleedOnce 98 = .ok (.iinc 3 1, 3) := by decide +kernel
theorem dX0_bleedOnce_101 : decode cX0_bleedOnce 101 = .ok (.goto (-65), 3) := by decide +kernel
theorem dX0_bleedOnce_104 : decode cX0_bleedOnce 104 = .ok (.aload_n 0, 1) := by decide +kernel
theorem dX0_bleedOnce_105 : decode cX0_bleedOnce 105 = .ok (.getfield 9, 3) := by decide +kernel
theorem dX0_bleedOnce_108 : decode cX0_bleedOnce 108 = .ok (.iconst 0, 1) := by decide +kernel
theorem dX0_bleedOnce_109 : decode cX0_bleedOnce 109 = .ok (.aload_n 1, 1) := by decide +kernel
theorem dX0_bleedOnce_110 : decode cX0_bleedOnce 110 = .ok (.getfield 36, 3) := by decide +kernel
theorem dX0_bleedOnce_113 : decode cX0_bleedOnce 113 = .ok (.iconst 0, 1) := by decide +kernel
theorem dX0_bleedOnce_114 : decode cX0_bleedOnce 114 = .ok (.sipush 180, 3) := by decide +kernel
theorem dX0_bleedOnce_117 : decode cX0_bleedOnce 117 = .ok (.invokestatic 39, 3) := by decide +kernel
theorem dX0_bleedOnce_120 : decode cX0_bleedOnce 120 = .ok (.aload_n 0, 1) := by decide +kernel
theorem dX0_bleedOnce_121 : decode cX0_bleedOnce 121 = .ok (.getfield 15, 3) := by decide +kernel
theorem dX0_bleedOnce_124 : decode cX0_bleedOnce 124 = .ok (.iconst 0, 1) := by decide +kernel
theorem dX0_bleedOnce_125 : decode cX0_bleedOnce 125 = .ok (.aload_n 1, 1) := by decide +kernel
theorem dX0_bleedOnce_126 : decode cX0_bleedOnce 126 = .ok (.getfield 45, 3) := by decide +kernel
theorem dX0_bleedOnce_129 : decode cX0_bleedOnce 129 = .ok (.iconst 0, 1) := by decide +kernel
theorem dX0_bleedOnce_130 : decode cX0_bleedOnce 130 = .ok (.sipush 180, 3) := by decide +kernel
theorem dX0_bleedOnce_133 : decode cX0_bleedOnce 133 = .ok (.invokestatic 39, 3) := by decide +kernel
theorem dX0_bleedOnce_136 : decode cX0_bleedOnce 136 = .ok (.iload_n 2, 1) := by decide +kernel
theorem dX0_bleedOnce_137 : decode cX0_bleedOnce 137 = .ok (.ireturn, 1) := by decide +kernel
theorem dX0_bleedInto_0 : decode cX0_bleedInto 0 = .ok (.aload_n 1, 1) := by decide +kernel
theorem dX0_bleedInto_1 : decode cX0_bleedInto 1 = .ok (.getfield 36, 3) := by decide +kernel
theorem dX0_bleedInto_4 : decode cX0_bleedInto 4 = .ok (.iload_n 2, 1) := by decide +kernel
theorem dX0_bleedInto_5 : decode cX0_bleedInto 5 = .ok (.iaload, 1) := by decide +kernel
theorem dX0_bleedInto_6 : decode cX0_bleedInto 6 = .ok (.istore 4, 2) := by decide +kernel
theorem dX0_bleedInto_8 : decode cX0_bleedInto 8 = .ok (.aload_n 1, 1) := by decide +kernel
theorem dX0_bleedInto_9 : decode cX0_bleedInto 9 = .ok (.getfield 36, 3) := by decide +kernel
theorem dX0_bleedInto_12 : decode cX0_bleedInto 12 = .ok (.iload_n 3, 1) := by decide +kernel
theorem dX0_bleedInto_13 : decode cX0_bleedInto 13 = .ok (.iaload, 1) := by decide +kernel
theorem dX0_bleedInto_14 : decode cX0_bleedInto 14 = .ok (.istore 5, 2) := by decide +kernel
theorem dX0_bleedInto_16 : decode cX0_bleedInto 16 = .ok (.aload_n 0, 1) := by decide +kernel
theorem dX0_bleedInto_17 : decode cX0_bleedInto 17 = .ok (.getfield 9, 3) := by decide +kernel
theorem dX0_bleedInto_20 : decode cX0_bleedInto 20 = .ok (.iload_n 2, 1) := by decide +kernel
theorem dX0_bleedInto_21 : decode cX0_bleedInto 21 = .ok (.iload 4, 2) := by decide +kernel
theorem dX0_bleedInto_23 : decode cX0_bleedInto 23 = .ok (.ifCond .ne 8, 3) := by decide +kernel
theorem dX0_bleedInto_26 : decode cX0_bleedInto 26 = .ok (.iload 5, 2) := by decide +kernel
theorem dX0_bleedInto_28 : decode cX0_bleedInto 28 = .ok (.goto 11, 3) := by decide +kernel
theorem dX0_bleedInto_31 : decode cX0_bleedInto 31 = .ok (.aload_n 1, 1) := by decide +kernel
theorem dX0_bleedInto_32 : decode cX0_bleedInto 32 = .ok (.iload 4, 2) := by decide +kernel
theorem dX0_bleedInto_34 : decode cX0_bleedInto 34 = .ok (.iload 5, 2) := by decide +kernel
theorem dX0_bleedInto_36 : decode cX0_bleedInto 36 = .ok (.invokevirtual 69, 3) := by decide +kernel
theorem dX0_bleedInto_39 : decode cX0_bleedInto 39 = .ok (.iastore, 1) := by decide +kernel
theorem dX0_bleedInto_40 : decode cX0_bleedInto 40 = .ok (.aload_n 0, 1) := by decide +kernel
theorem dX0_bleedInto_41 : decode cX0_bleedInto 41 = .ok (.getfield 15, 3) := by decide +kernel
theorem dX0_bleedInto_44 : decode cX0_bleedInto 44 = .ok (.iload_n 2, 1) := by decide +kernel
theorem dX0_bleedInto_45 : decode cX0_bleedInto 45 = .ok (.aload_n 1, 1) := by decide +kernel
theorem dX0_bleedInto_46 : decode cX0_bleedInto 46 = .ok (.getfield 45, 3) := by decide +kernel
theorem dX0_bleedInto_49 : decode cX0_bleedInto 49 = .ok (.iload_n 2, 1) := by decide +kernel
theorem dX0_bleedInto_50 : decode cX0_bleedInto 50 = .ok (.iaload, 1) := by decide +kernel
theorem dX0_bleedInto_51 : decode cX0_bleedInto 51 = .ok (.aload_n 1, 1) := by decide +kernel
theorem dX0_bleedInto_52 : decode cX0_bleedInto 52 = .ok (.getfield 45, 3) := by decide +kernel
theorem dX0_bleedInto_55 : decode cX0_bleedInto 55 = .ok (.iload_n 3, 1) := by decide +kernel
theorem dX0_bleedInto_56 : decode cX0_bleedInto 56 = .ok (.iaload, 1) := by decide +kernel
theorem dX0_bleedInto_57 : decode cX0_bleedInto 57 = .ok (.iadd, 1) := by decide +kernel
theorem dX0_bleedInto_58 : decode cX0_bleedInto 58 = .ok (.iconst 2, 1) := by decide +kernel
theorem dX0_bleedInto_59 : decode cX0_bleedInto 59 = .ok (.idiv, 1) := by decide +kernel
theorem dX0_bleedInto_60 : decode cX0_bleedInto 60 = .ok (.iastore, 1) := by decide +kernel
theorem dX0_bleedInto_61 : decode cX0_bleedInto 61 = .ok (.return_, 1) := by decide +kernel
theorem dX0_dryOnce_0 : decode cX0_dryOnce 0 = .ok (.iconst 0, 1) := by decide +kernel
theorem dX0_dryOnce_1 : decode cX0_dryOnce 1 = .ok (.istore_n 1, 1) := by decide +kernel
theorem dX0_dryOnce_2 : decode cX0_dryOnce 2 = .ok (.iload_n 1, 1) := by decide +kernel
theorem dX0_dryOnce_3 : decode cX0_dryOnce 3 = .ok (.sipush 180, 3) := by decide +kernel
theorem dX0_dryOnce_6 : decode cX0_dryOnce 6 = .ok (.if_icmp .ge 28, 3) := by decide +kernel
theorem dX0_dryOnce_9 : decode cX0_dryOnce 9 = .ok (.aload_n 0, 1) := by decide +kernel
theorem dX0_dryOnce_10 : decode cX0_dryOnce 10 = .ok (.getfield 45, 3) := by decide +kernel
theorem dX0_dryOnce_13 : decode cX0_dryOnce 13 = .ok (.iload_n 1, 1) := by decide +kernel
theorem dX0_dryOnce_14 : decode cX0_dryOnce 14 = .ok (.iaload, 1) := by decide +kernel
theorem dX0_dryOnce_15 : decode cX0_dryOnce 15 = .ok (.ifCond .le 13, 3) := by decide +kernel
theorem dX0_dryOnce_18 : decode cX0_dryOnce 18 = .ok (.aload_n 0, 1) := by decide +kernel
theorem dX0_dryOnce_19 : decode cX0_dryOnce 19 = .ok (.getfield 45, 3) := by decide +kernel
theorem dX0_dryOnce_22 : decode cX0_dryOnce 22 = .ok (.iload_n 1, 1) := by decide +kernel
theorem dX0_dryOnce_23 : decode cX0_dryOnce 23 = .ok (.dup2, 1) := by decide +kernel
theorem dX0_dryOnce_24 : decode cX0_dryOnce 24 = .ok (.iaload, 1) := by decide +kernel
theorem dX0_dryOnce_25 : decode cX0_dryOnce 25 = .ok (.iconst 1, 1) := by decide +kernel
theorem dX0_dryOnce_26 : decode cX0_dryOnce 26 = .ok (.isub, 1) := by decide +kernel
theorem dX0_dryOnce_27 : decode cX0_dryOnce 27 = .ok (.iastore, 1) := by decide +kernel
theorem dX0_dryOnce_28 : decode cX0_dryOnce 28 = .ok (.iinc 1 1, 3) := by decide +kernel
theorem dX0_dryOnce_31 : decode cX0_dryOnce 31 = .ok (.goto (-29), 3) := by decide +kernel
theorem dX0_dryOnce_34 : decode cX0_dryOnce 34 = .ok (.return_, 1) := by decide +kernel
theorem dX1_init_0 : decode cX1_init 0 = .ok (.aload_n 0, 1) := by decide +kernel
theorem dX1_init_1 : decode cX1_init 1 = .ok (.invokespecial 3, 3) := by decide +kernel
theorem dX1_init_4 : decode cX1_init 4 = .ok (.aload_n 0, 1) := by decide +kernel
theorem dX1_init_5 : decode cX1_init 5 = .ok (.bipush 8, 2) := by decide +kernel
theorem dX1_init_7 : decode cX1_init 7 = .ok (.anewarray 9, 3) := by decide +kernel
theorem dX1_init_10 : decode cX1_init 10 = .ok (.putfield 11, 3) := by decide +kernel
theorem dX1_init_13 : decode cX1_init 13 = .ok (.iconst 0, 1) := by decide +kernel
theorem dX1_init_14 : decode cX1_init 14 = .ok (.istore_n 1, 1) := by decide +kernel
theorem dX1_init_15 : decode cX1_init 15 = .ok (.iload_n 1, 1) := by decide +kernel
theorem dX1_init_16 : decode cX1_init 16 = .ok (.bipush 8, 2) := by decide +kernel
theorem dX1_init_18 : decode cX1_init 18 = .ok (.if_icmp .ge 22, 3) := by decide +kernel
theorem dX1_init_21 : decode cX1_init 21 = .ok (.aload_n 0, 1) := by decide +kernel
theorem dX1_init_22 : decode cX1_init 22 = .ok (.getfield 11, 3) := by decide +kernel
theorem dX1_init_25 : decode cX1_init 25 = .ok (.iload_n 1, 1) := by decide +kernel
theorem dX1_init_26 : decode cX1_init 26 = .ok (.new 9, 3) := by decide +kernel
theorem dX1_init_29 : decode cX1_init 29 = .ok (.dup, 1) := by decide +kernel
theorem dX1_init_30 : decode cX1_init 30 = .ok (.invokespecial 17, 3) := by decide +kernel
theorem dX1_init_33 : decode cX1_init 33 = .ok (.aastore, 1) := by decide +kernel
theorem dX1_init_34 : decode cX1_init 34 = .ok (.iinc 1 1, 3) := by decide +kernel
theorem dX1_init_37 : decode cX1_init 37 = .ok (.goto (-22), 3) := by decide +kernel
theorem dX1_init_40 : decode cX1_init 40 = .ok (.aload_n 0, 1) := by decide +kernel
theorem dX1_init_41 : decode cX1_init 41 = .ok (.iconst 0, 1) := by decide +kernel
theorem dX1_init_42 : decode cX1_init 42 = .ok (.putfield 18, 3) := by decide +kernel
theorem dX1_init_45 : decode cX1_init 45 = .ok (.aload_n 0, 1) := by decide +kernel
theorem dX1_init_46 : decode cX1_init 46 = .ok (.iconst 0, 1) := by decide +kernel
theorem dX1_init_47 : decode cX1_init 47 = .ok (.putfield 22, 3) := by decide +kernel
theorem dX1_init_50 : decode cX1_init 50 = .ok (.return_, 1) := by decide +kernel
theorem dX1_keep_0 : decode cX1_keep 0 = .ok (.aload_n 0, 1) := by decide +kernel
theorem dX1_keep_1 : decode cX1_keep 1 = .ok (.aload_n 0, 1) := by decide +kernel
theorem dX1_keep_2 : decode cX1_keep 2 = .ok (.getfield 18, 3) := by decide +kernel
theorem dX1_keep_5 : decode cX1_keep 5 = .ok (.iconst 1, 1) := by decide +kernel
theorem dX1_keep_6 : decode cX1_keep 6 = .ok (.iadd, 1) := by decide +kernel
theorem dX1_keep_7 : decode cX1_keep 7 = .ok (.bipush 8, 2) := by decide +kernel
theorem dX1_keep_9 : decode cX1_keep 9 = .ok (.irem, 1) := by decide +kernel
theorem dX1_keep_10 : decode cX1_keep 10 = .ok (.putfield 18, 3) := by decide +kernel
theorem dX1_keep_13 : decode cX1_keep 13 = .ok (.aload_n 0, 1) := by decide +kernel
theorem dX1_keep_14 : decode cX1_keep 14 = .ok (.aload_n 0, 1) := by decide +kernel
theorem dX1_keep_15 : decode cX1_keep 15 = .ok (.getfield 22, 3) := by decide +kernel
theorem dX1_keep_18 : decode cX1_keep 18 = .ok (.iconst 1, 1) := by decide +kernel
theorem dX1_keep_19 : decode cX1_keep 19 = .ok (.iadd, 1) := by decide +kernel
theorem dX1_keep_20 : decode cX1_keep 20 = .ok (.bipush 8, 2) := by decide +kernel
theorem dX1_keep_22 : decode cX1_keep 22 = .ok (.invokestatic 25, 3) := by decide +kernel
theorem dX1_keep_25 : decode cX1_keep 25 = .ok (.putfield 22, 3) := by decide +kernel
theorem dX1_keep_28 : decode cX1_keep 28 = .ok (.aload_n 0, 1) := by decide +kernel
theorem dX1_keep_29 : decode cX1_keep 29 = .ok (.getfield 11, 3) := by decide +kernel
theorem dX1_keep_32 : decode cX1_keep 32 = .ok (.aload_n 0, 1) := by decide +kernel
theorem dX1_keep_33 : decode cX1_keep 33 = .ok (.getfield 18, 3) := by decide +kernel
theorem dX1_keep_36 : decode cX1_keep 36 = .ok (.aaload, 1) := by decide +kernel
theorem dX1_keep_37 : decode cX1_keep 37 = .ok (.aload_n 1, 1) := by decide +kernel
theorem dX1_keep_38 : decode cX1_keep 38 = .ok (.invokevirtual 31, 3) := by decide +kernel
theorem dX1_keep_41 : decode cX1_keep 41 = .ok (.return_, 1) := by decide +kernel
theorem dX1_takeBack_0 : decode cX1_takeBack 0 = .ok (.aload_n 1, 1) := by decide +kernel
theorem dX1_takeBack_1 : decode cX1_takeBack 1 = .ok (.aload_n 0, 1) := by decide +kernel
theorem dX1_takeBack_2 : decode cX1_takeBack 2 = .ok (.getfield 11, 3) := by decide +kernel
theorem dX1_takeBack_5 : decode cX1_takeBack 5 = .ok (.aload_n 0, 1) := by decide +kernel
theorem dX1_takeBack_6 : decode cX1_takeBack 6 = .ok (.getfield 18, 3) := by decide +kernel
theorem dX1_takeBack_9 : decode cX1_takeBack 9 = .ok (.aaload, 1) := by decide +kernel
theorem dX1_takeBack_10 : decode cX1_takeBack 10 = .ok (.invokevirtual 31, 3) := by decide +kernel
theorem dX1_takeBack_13 : decode cX1_takeBack 13 = .ok (.aload_n 0, 1) := by decide +kernel
theorem dX1_takeBack_14 : decode cX1_takeBack 14 = .ok (.aload_n 0, 1) := by decide +kernel
theorem dX1_takeBack_15 : decode cX1_takeBack 15 = .ok (.getfield 18, 3) := by decide +kernel
theorem dX1_takeBack_18 : decode cX1_takeBack 18 = .ok (.bipush 8, 2) := by decide +kernel
theorem dX1_takeBack_20 : decode cX1_takeBack 20 = .ok (.iadd, 1) := by decide +kernel
theorem dX1_takeBack_21 : decode cX1_takeBack 21 = .ok (.iconst 1, 1) := by decide +kernel
theorem dX1_takeBack_22 : decode cX1_takeBack 22 = .ok (.isub, 1) := by decide +kernel
theorem dX1_takeBack_23 : decode cX1_takeBack 23 = .ok (.bipush 8, 2) := by decide +kernel
theorem dX1_takeBack_25 : decode cX1_takeBack 25 = .ok (.irem, 1) := by decide +kernel
theorem dX1_takeBack_26 : decode cX1_takeBack 26 = .ok (.putfield 18, 3) := by decide +kernel
theorem dX1_takeBack_29 : decode cX1_takeBack 29 = .ok (.aload_n 0, 1) := by decide +kernel
theorem dX1_takeBack_30 : decode cX1_takeBack 30 = .ok (.dup, 1) := by decide +kernel
theorem dX1_takeBack_31 : decode cX1_takeBack 31 = .ok (.getfield 22, 3) := by decide +kernel
theorem dX1_takeBack_34 : decode cX1_takeBack 34 = .ok (.iconst 1, 1) := by decide +kernel
theorem dX1_takeBack_35 : decode cX1_takeBack 35 = .ok (.isub, 1) := by decide +kernel
theorem dX1_takeBack_36 : decode cX1_takeBack 36 = .ok (.putfield 22, 3) := by decide +kernel
theorem dX1_takeBack_39 : decode cX1_takeBack 39 = .ok (.return_, 1) := by decide +kernel
theorem dX2_init_0 : decode cX2_init 0 = .ok (.aload_n 0, 1) := by decide +kernel
theorem dX2_init_1 : decode cX2_init 1 = .ok (.invokespecial 3, 3) := by decide +kernel
theorem dX2_init_4 : decode cX2_init 4 = .ok (.aload_n 0, 1) := by decide +kernel
theorem dX2_init_5 : decode cX2_init 5 = .ok (.sipush 180, 3) := by decide +kernel
theorem dX2_init_8 : decode cX2_init 8 = .ok (.newarray .int, 2) := by decide +kernel
theorem dX2_init_10 : decode cX2_init 10 = .ok (.putfield 9, 3) := by decide +kernel
theorem dX2_init_13 : decode cX2_init 13 = .ok (.aload_n 0, 1) := by decide +kernel
theorem dX2_init_14 : decode cX2_init 14 = .ok (.sipush 180, 3) := by decide +kernel
theorem dX2_init_17 : decode cX2_init 17 = .ok (.newarray .int, 2) := by decide +kernel
theorem dX2_init_19 : decode cX2_init 19 = .ok (.putfield 15, 3) := by decide +kernel
theorem dX2_init_22 : decode cX2_init 22 = .ok (.aload_n 0, 1) := by decide +kernel
theorem dX2_init_23 : decode cX2_init 23 = .ok (.sipush 180, 3) := by decide +kernel
theorem dX2_init_26 : decode cX2_init 26 = .ok (.newarray .int, 2) := by decide +kernel
theorem dX2_init_28 : decode cX2_init 28 = .ok (.putfield 18, 3) := by decide +kernel
theorem dX2_init_31 : decode cX2_init 31 = .ok (.return_, 1) := by decide +kernel
theorem dX2_ofColour_0 : decode cX2_ofColour 0 = .ok (.aload_n 0, 1) := by decide +kernel
theorem dX2_ofColour_1 : decode cX2_ofColour 1 = .ok (.getfield 9, 3) := by decide +kernel
theorem dX2_ofColour_4 : decode cX2_ofColour 4 = .ok (.iconst 0, 1) := by decide +kernel
theorem dX2_ofColour_5 : decode cX2_ofColour 5 = .ok (.invokestatic 21, 3) := by decide +kernel
theorem dX2_ofColour_8 : decode cX2_ofColour 8 = .ok (.iconst 0, 1) := by decide +kernel
theorem dX2_ofColour_9 : decode cX2_ofColour 9 = .ok (.istore_n 3, 1) := by decide +kernel
theorem dX2_ofColour_10 : decode cX2_ofColour 10 = .ok (.iconst 0, 1) := by decide +kernel
theorem dX2_ofColour_11 : decode cX2_ofColour 11 = .ok (.istore 4, 2) := by decide +kernel
theorem dX2_ofColour_13 : decode cX2_ofColour 13 = .ok (.iload 4, 2) := by decide +kernel
theorem dX2_ofColour_15 : decode cX2_ofColour 15 = .ok (.aload_n 1, 1) := by decide +kernel
theorem dX2_ofColour_16 : decode cX2_ofColour 16 = .ok (.getfield 27, 3) := by decide +kernel
theorem dX2_ofColour_19 : decode cX2_ofColour 19 = .ok (.if_icmp .ge 77, 3) := by decide +kernel
theorem dX2_ofColour_22 : decode cX2_ofColour 22 = .ok (.aload_n 1, 1) := by decide +kernel
theorem dX2_ofColour_23 : decode cX2_ofColour 23 = .ok (.iload 4, 2) := by decide +kernel
theorem dX2_ofColour_25 : decode cX2_ofColour 25 = .ok (.invokevirtual 33, 3) := by decide +kernel
theorem dX2_ofColour_28 : decode cX2_ofColour 28 = .ok (.istore 5, 2) := by decide +kernel
theorem dX2_ofColour_30 : decode cX2_ofColour 30 = .ok (.iload 5, 2) := by decide +kernel
theorem dX2_ofColour_32 : decode cX2_ofColour 32 = .ok (.aload_n 1, 1) := by decide +kernel
theorem dX2_ofColour_33 : decode cX2_ofColour 33 = .ok (.iload 4, 2) := by decide +kernel
theorem dX2_ofColour_35 : decode cX2_ofColour 35 = .ok (.invokevirtual 37, 3) := by decide +kernel
theorem dX2_ofColour_38 : decode cX2_ofColour 38 = .ok (.if_icmp .gt 52, 3) := by decide +kernel
theorem dX2_ofColour_41 : decode cX2_ofColour 41 = .ok (.aload_n 1, 1) := by decide +kernel
theorem dX2_ofColour_42 : decode cX2_ofColour 42 = .ok (.iload 5, 2) := by decide +kernel
theorem dX2_ofColour_44 : decode cX2_ofColour 44 = .ok (.iload 4, 2) := by decide +kernel
theorem dX2_ofColour_46 : decode cX2_ofColour 46 = .ok (.invokevirtual 40, 3) := by decide +kernel
theorem dX2_ofColour_49 : decode cX2_ofColour 49 = .ok (.istore 6, 2) := by decide +kernel
theorem dX2_ofColour_51 : decode cX2_ofColour 51 = .ok (.aload_n 0, 1) := by decide +kernel
theorem dX2_ofColour_52 : decode cX2_ofColour 52 = .ok (.getfield 9, 3) := by decide +kernel
theorem dX2_ofColour_55 : decode cX2_ofColour 55 = .ok (.iload 6, 2) := by decide +kernel
theorem dX2_ofColour_57 : decode cX2_ofColour 57 = .ok (.iaload, 1) := by decide +kernel
theorem dX2_ofColour_58 : decode cX2_ofColour 58 = .ok (.ifCond .ne 26, 3) := by decide +kernel
theorem dX2_ofColour_61 : decode cX2_ofColour 61 = .ok (.aload_n 1, 1) := by decide +kernel
theorem dX2_ofColour_62 : decode cX2_ofColour 62 = .ok (.getfield 44, 3) := by decide +kernel
theorem dX2_ofColour_65 : decode cX2_ofColour 65 = .ok (.iload 6, 2) := by decide +kernel
theorem dX2_ofColour_67 : decode cX2_ofColour 67 = .ok (.iaload, 1) := by decide +kernel
theorem dX2_ofColour_68 : decode cX2_ofColour 68 = .ok (.iload_n 2, 1) := by decide +kernel
theorem dX2_ofColour_69 : decode cX2_ofColour 69 = .ok (.if_icmp .ne 15, 3) := by decide +kernel
theorem dX2_ofColour_72 : decode cX2_ofColour 72 = .ok (.aload_n 0, 1) := by decide +kernel
theorem dX2_ofColour_73 : decode cX2_ofColour 73 = .ok (.aload_n 1, 1) := by decide +kernel
theorem dX2_ofColour_74 : decode cX2_ofColour 74 = .ok (.iload 5, 2) := by decide +kernel
theorem dX2_ofColour_76 : decode cX2_ofColour 76 = .ok (.iload 4, 2) := by decide +kernel
theorem dX2_ofColour_78 : decode cX2_ofColour 78 = .ok (.invokevirtual 47, 3) := by decide +kernel
theorem dX2_ofColour_81 : decode cX2_ofColour 81 = .ok (.iinc 3 1, 3) := by decide +kernel
theorem dX2_ofColour_84 : decode cX2_ofColour 84 = .ok (.iinc 5 1, 3) := by decide +kernel
theorem dX2_ofColour_87 : decode cX2_ofColour 87 = .ok (.goto (-57), 3) := by decide +kernel
theorem dX2_ofColour_90 : decode cX2_ofColour 90 = .ok (.iinc 4 1, 3) := by decide +kernel
theorem dX2_ofColour_93 : decode cX2_ofColour 93 = .ok (.goto (-80), 3) := by decide +kernel
theorem dX2_ofColour_96 : decode cX2_ofColour 96 = .ok (.iload_n 3, 1) := by decide +kernel
theorem dX2_ofColour_97 : decode cX2_ofColour 97 = .ok (.ireturn, 1) := by decide +kernel
theorem dX2_fillFrom_0 : decode cX2_fillFrom 0 = .ok (.aload_n 0, 1) := by decide +kernel
theorem dX2_fillFrom_1 : decode cX2_fillFrom 1 = .ok (.getfield 9, 3) := by decide +kernel
theorem dX2_fillFrom_4 : decode cX2_fillFrom 4 = .ok (.iconst 0, 1) := by decide +kernel
theorem dX2_fillFrom_5 : decode cX2_fillFrom 5 = .ok (.invokestatic 21, 3) := by decide +kernel
theorem dX2_fillFrom_8 : decode cX2_fillFrom 8 = .ok (.aload_n 0, 1) := by decide +kernel
theorem dX2_fillFrom_9 : decode cX2_fillFrom 9 = .ok (.aload_n 1, 1) := by decide +kernel
theorem dX2_fillFrom_10 : decode cX2_fillFrom 10 = .ok (.iload_n 2, 1) := by decide +kernel
theorem dX2_fillFrom_11 : decode cX2_fillFrom 11 = .ok (.iload_n 3, 1) := by decide +kernel
theorem dX2_fillFrom_12 : decode cX2_fillFrom 12 = .ok (.invokevirtual 47, 3) := by decide +kernel
theorem dX2_fillFrom_15 : decode cX2_fillFrom 15 = .ok (.aload_n 0, 1) := by decide +kernel
theorem dX2_fillFrom_16 : decode cX2_fillFrom 16 = .ok (.getfield 51, 3) := by decide +kernel
theorem dX2_fillFrom_19 : decode cX2_fillFrom 19 = .ok (.ireturn, 1) := by decide +kernel
theorem dX2_makeFoundBare_0 : decode cX2_makeFoundBare 0 = .ok (.iconst 0, 1) := by decide +kernel
theorem dX2_makeFoundBare_1 : decode cX2_makeFoundBare 1 = .ok (.istore_n 2, 1) := by decide +kernel
theorem dX2_makeFoundBare_2 : decode cX2_makeFoundBare 2 = .ok (.iload_n 2, 1) := by decide +kernel
theorem dX2_makeFoundBare_3 : decode cX2_makeFoundBare 3 = .ok (.aload_n 0, 1) := by decide +kernel
theorem dX2_makeFoundBare_4 : decode cX2_makeFoundBare 4 = .ok (.getfield 51, 3) := by decide +kernel
theorem dX2_makeFoundBare_7 : decode cX2_makeFoundBare 7 = .ok (.if_icmp .ge 31, 3) := by decide +kernel
theorem dX2_makeFoundBare_10 : decode cX2_makeFoundBare 10 = .ok (.aload_n 1, 1) := by decide +kernel
theorem dX2_makeFoundBare_11 : decode cX2_makeFoundBare 11 = .ok (.aload_n 1, 1) := by decide +kernel
theorem dX2_makeFoundBare_12 : decode cX2_makeFoundBare 12 = .ok (.aload_n 0, 1) := by decide +kernel
theorem dX2_makeFoundBare_13 : decode cX2_makeFoundBare 13 = .ok (.getfield 15, 3) := by decide +kernel
theorem dX2_makeFoundBare_16 : decode cX2_makeFoundBare 16 = .ok (.iload_n 2, 1) := by decide +kernel
theorem dX2_makeFoundBare_17 : decode cX2_makeFoundBare 17 = .ok (.iaload, 1) := by decide +kernel
theorem dX2_makeFoundBare_18 : decode cX2_makeFoundBare 18 = .ok (.aload_n 0, 1) := by decide +kernel
theorem dX2_makeFoundBare_19 : decode cX2_makeFoundBare 19 = .ok (.getfield 18, 3) := by decide +kernel
theorem dX2_makeFoundBare_22 : decode cX2_makeFoundBare 22 = .ok (.iload_n 2, 1) := by decide +kernel
theorem dX2_makeFoundBare_23 : decode cX2_makeFoundBare 23 = .ok (.iaload, 1) := by decide +kernel
theorem dX2_makeFoundBare_24 : decode cX2_makeFoundBare 24 = .ok (.invokevirtual 40, 3) := by decide +kernel
theorem dX2_makeFoundBare_27 : decode cX2_makeFoundBare 27 = .ok (.iconst 0, 1) := by decide +kernel
theorem dX2_makeFoundBare_28 : decode cX2_makeFoundBare 28 = .ok (.iconst 0, 1) := by decide +kernel
theorem dX2_makeFoundBare_29 : decode cX2_makeFoundBare 29 = .ok (.invokevirtual 54, 3) := by decide +kernel
theorem dX2_makeFoundBare_32 : decode cX2_makeFoundBare 32 = .ok (.iinc 2 1, 3) := by decide +kernel
theorem dX2_makeFoundBare_35 : decode cX2_makeFoundBare 35 = .ok (.goto (-33), 3) := by decide +kernel
theorem dX2_makeFoundBare_38 : decode cX2_makeFoundBare 38 = .ok (.return_, 1) := by decide +kernel
theorem dX2_spread_0 : decode cX2_spread 0 = .ok (.aload_n 0, 1) := by decide +kernel
theorem dX2_spread_1 : decode cX2_spread 1 = .ok (.iconst 0, 1) := by decide +kernel
theorem dX2_spread_2 : decode cX2_spread 2 = .ok (.putfield 51, 3) := by decide +kernel
theorem dX2_spread_5 : decode cX2_spread 5 = .ok (.aload_n 1, 1) := by decide +kernel
theorem dX2_spread_6 : decode cX2_spread 6 = .ok (.getfield 44, 3) := by decide +kernel
theorem dX2_spread_9 : decode cX2_spread 9 = .ok (.aload_n 1, 1) := by decide +kernel
theorem dX2_spread_10 : decode cX2_spread 10 = .ok (.iload_n 2, 1) := by decide +kernel
theorem dX2_spread_11 : decode cX2_spread 11 = .ok (.iload_n 3, 1) := by decide +kernel
theorem dX2_spread_12 : decode cX2_spread 12 = .ok (.invokevirtual 40, 3) := by decide +kernel
theorem dX2_spread_15 : decode cX2_spread 15 = .ok (.iaload, 1) := by decide +kernel
theorem dX2_spread_16 : decode cX2_spread 16 = .ok (.istore 4, 2) := by decide +kernel
theorem dX2_spread_18 : decode cX2_spread 18 = .ok (.aload_n 0, 1) := by decide +kernel
theorem dX2_spread_19 : decode cX2_spread 19 = .ok (.aload_n 1, 1) := by decide +kernel
theorem dX2_spread_20 : decode cX2_spread 20 = .ok (.iload_n 2, 1) := by decide +kernel
theorem dX2_spread_21 : decode cX2_spread 21 = .ok (.iload_n 3, 1) := by decide +kernel
theorem dX2_spread_22 : decode cX2_spread 22 = .ok (.iload 4, 2) := by decide +kernel
theorem dX2_spread_24 : decode cX2_spread 24 = .ok (.invokevirtual 58, 3) := by decide +kernel
theorem dX2_spread_27 : decode cX2_spread 27 = .ok (.iconst 0, 1) := by decide +kernel
theorem dX2_spread_28 : decode cX2_spread 28 = .ok (.istore 5, 2) := by decide +kernel
theorem dX2_spread_30 : decode cX2_spread 30 = .ok (.iload 5, 2) := by decide +kernel
theorem dX2_spread_32 : decode cX2_spread 32 = .ok (.aload_n 0, 1) := by decide +kernel
theorem dX2_spread_33 : decode cX2_spread 33 = .ok (.getfield 51, 3) := by decide +kernel
theorem dX2_spread_36 : decode cX2_spread 36 = .ok (.if_icmp .ge 70, 3) := by decide +kernel
theorem dX2_spread_39 : decode cX2_spread 39 = .ok (.iload 5, 2) := by decide +kernel
theorem dX2_spread_41 : decode cX2_spread 41 = .ok (.sipush 180, 3) := by decide +kernel
theorem dX2_spread_44 : decode cX2_spread 44 = .ok (.if_icmp .ge 62, 3) := by decide +kernel
theorem dX2_spread_47 : decode cX2_spread 47 = .ok (.iconst 0, 1) := by decide +kernel
theorem dX2_spread_48 : decode cX2_spread 48 = .ok (.istore 6, 2) := by decide +kernel
theorem dX2_spread_50 : decode cX2_spread 50 = .ok (.iload 6, 2) := by decide +kernel
theorem dX2_spread_52 : decode cX2_spread 52 = .ok (.getstatic 62, 3) := by decide +kernel
theorem dX2_spread_55 : decode cX2_spread 55 = .ok (.arraylength, 1) := by decide +kernel
theorem dX2_spread_56 : decode cX2_spread 56 = .ok (.if_icmp .ge 44, 3) := by decide +kernel
theorem dX2_spread_59 : decode cX2_spread 59 = .ok (.aload_n 0, 1) := by decide +kernel
theorem dX2_spread_60 : decode cX2_spread 60 = .ok (.aload_n 1, 1) := by decide +kernel
theorem dX2_spread_61 : decode cX2_spread 61 = .ok (.aload_n 0, 1) := by decide +kernel
theorem dX2_spread_62 : decode cX2_spread 62 = .ok (.getfield 15, 3) := by decide +kernel
theorem dX2_spread_65 : decode cX2_spread 65 = .ok (.iload 5, 2) := by decide +kernel
theorem dX2_spread_67 : decode cX2_spread 67 = .ok (.iaload, 1) := by decide +kernel
theorem dX2_spread_68 : decode cX2_spread 68 = .ok (.getstatic 62, 3) := by decide +kernel
theorem dX2_spread_71 : decode cX2_spread 71 = .ok (.iload 6, 2) := by decide +kernel
theorem dX2_spread_73 : decode cX2_spread 73 = .ok (.iaload, 1) := by decide +kernel
theorem dX2_spread_74 : decode cX2_spread 74 = .ok (.iadd, 1) := by decide +kernel
theorem dX2_spread_75 : decode cX2_spread 75 = .ok (.aload_n 0, 1) := by decide +kernel
theorem dX2_spread_76 : decode cX2_spread 76 = .ok (.getfield 18, 3) := by decide +kernel
theorem dX2_spread_79 : decode cX2_spread 79 = .ok (.iload 5, 2) := by decide +kernel
theorem dX2_spread_81 : decode cX2_spread 81 = .ok (.iaload, 1) := by decide +kernel
theorem dX2_spread_82 : decode cX2_spread 82 = .ok (.getstatic 65, 3) := by decide +kernel
theorem dX2_spread_85 : decode cX2_spread 85 = .ok (.iload 6, 2) := by decide +kernel
theorem dX2_spread_87 : decode cX2_spread 87 = .ok (.iaload, 1) := by decide +kernel
theorem dX2_spread_88 : decode cX2_spread 88 = .ok (.iadd, 1) := by decide +kernel
theorem dX2_spread_89 : decode cX2_spread 89 = .ok (.iload 4, 2) := by decide +kernel
theorem dX2_spread_91 : decode cX2_spread 91 = .ok (.invokevirtual 58, 3) := by decide +kernel
theorem dX2_spread_94 : decode cX2_spread 94 = .ok (.iinc 6 1, 3) := by decide +kernel
theorem dX2_spread_97 : decode cX2_spread 97 = .ok (.goto (-47), 3) := by decide +kernel
theorem dX2_spread_100 : decode cX2_spread 100 = .ok (.iinc 5 1, 3) := by decide +kernel
theorem dX2_spread_103 : decode cX2_spread 103 = .ok (.goto (-73), 3) := by decide +kernel
theorem dX2_spread_106 : decode cX2_spread 106 = .ok (.return_, 1) := by decide +kernel
theorem dX2_visit_0 : decode cX2_visit 0 = .ok (.aload_n 1, 1) := by decide +kernel
theorem dX2_visit_1 : decode cX2_visit 1 = .ok (.iload_n 2, 1) := by decide +kernel
theorem dX2_visit_2 : decode cX2_visit 2 = .ok (.iload_n 3, 1) := by decide +kernel
theorem dX2_visit_3 : decode cX2_visit 3 = .ok (.invokevirtual 68, 3) := by decide +kernel
theorem dX2_visit_6 : decode cX2_visit 6 = .ok (.ifCond .ne 4, 3) := by decide +kernel
theorem dX2_visit_9 : decode cX2_visit 9 = .ok (.return_, 1) := by decide +kernel
theorem dX2_visit_10 : decode cX2_visit 10 = .ok (.aload_n 1, 1) := by decide +kernel
theorem dX2_visit_11 : decode cX2_visit 11 = .ok (.iload_n 2, 1) := by decide +kernel
theorem dX2_visit_12 : decode cX2_visit 12 = .ok (.iload_n 3, 1) := by decide +kernel
theorem dX2_visit_13 : decode cX2_visit 13 = .ok (.invokevirtual 40, 3) := by decide +kernel
theorem dX2_visit_16 : decode cX2_visit 16 = .ok (.istore 5, 2) := by decide +kernel
theorem dX2_visit_18 : decode cX2_visit 18 = .ok (.aload_n 0, 1) := by decide +kernel
theorem dX2_visit_19 : decode cX2_visit 19 = .ok (.getfield 9, 3) := by decide +kernel
theorem dX2_visit_22 : decode cX2_visit 22 = .ok (.iload 5, 2) := by decide +kernel
theorem dX2_visit_24 : decode cX2_visit 24 = .ok (.iaload, 1) := by decide +kernel
theorem dX2_visit_25 : decode cX2_visit 25 = .ok (.iconst 1, 1) := by decide +kernel
theorem dX2_visit_26 : decode cX2_visit 26 = .ok (.if_icmp .eq 25, 3) := by decide +kernel
theorem dX2_visit_29 : decode cX2_visit 29 = .ok (.aload_n 1, 1) := by decide +kernel
theorem dX2_visit_30 : decode cX2_visit 30 = .ok (.getfield 44, 3) := by decide +kernel
theorem dX2_visit_33 : decode cX2_visit 33 = .ok (.iload 5, 2) := by decide +kernel
theorem dX2_visit_35 : decode cX2_visit 35 = .ok (.iaload, 1) := by decide +kernel
theorem dX2_visit_36 : decode cX2_visit 36 = .ok (.iload 4, 2) := by decide +kernel
theorem dX2_visit_38 : decode cX2_visit 38 = .ok (.if_icmp .ne 13, 3) := by decide +kernel
theorem dX2_visit_41 : decode cX2_visit 41 = .ok (.aload_n 0, 1) := by decide +kernel
theorem dX2_visit_42 : decode cX2_visit 42 = .ok (.getfield 51, 3) := by decide +kernel
theorem dX2_visit_45 : decode cX2_visit 45 = .ok (.sipush 180, 3) := by decide +kernel
theorem dX2_visit_48 : decode cX2_visit 48 = .ok (.if_icmp .lt 4, 3) := by decide +kernel
theorem dX2_visit_51 : decode cX2_visit 51 = .ok (.return_, 1) := by decide +kernel
theorem dX2_visit_52 : decode cX2_visit 52 = .ok (.aload_n 0, 1) := by decide +kernel
theorem dX2_visit_53 : decode cX2_visit 53 = .ok (.getfield 9, 3) := by decide +kernel
theorem dX2_visit_56 : decode cX2_visit 56 = .ok (.iload 5, 2) := by decide +kernel
theorem dX2_visit_58 : decode cX2_visit 58 = .ok (.iconst 1, 1) := by decide +kernel
theorem dX2_visit_59 : decode cX2_visit 59 = .ok (.iastore, 1) := by decide +kernel
theorem dX2_visit_60 : decode cX2_visit 60 = .ok (.aload_n 0, 1) := by decide +kernel
theorem dX2_visit_61 : decode cX2_visit 61 = .ok (.getfield 15, 3) := by decide +kernel
theorem dX2_visit_64 : decode cX2_visit 64 = .ok (.aload_n 0, 1) := by decide +kernel
theorem dX2_visit_65 : decode cX2_visit 65 = .ok (.getfield 51, 3) := by decide +kernel
theorem dX2_visit_68 : decode cX2_visit 68 = .ok (.iload_n 2, 1) := by decide +kernel
theorem dX2_visit_69 : decode cX2_visit 69 = .ok (.iastore, 1) := by decide +kernel
theorem dX2_visit_70 : decode cX2_visit 70 = .ok (.aload_n 0, 1) := by decide +kernel
theorem dX2_visit_71 : decode cX2_visit 71 = .ok (.getfield 18, 3) := by decide +kernel
theorem dX2_visit_74 : decode cX2_visit 74 = .ok (.aload_n 0, 1) := by decide +kernel
theorem dX2_visit_75 : decode cX2_visit 75 = .ok (.getfield 51, 3) := by decide +kernel
theorem dX2_visit_78 : decode cX2_visit 78 = .ok (.iload_n 3, 1) := by decide +kernel
theorem dX2_visit_79 : decode cX2_visit 79 = .ok (.iastore, 1) := by decide +kernel
theorem dX2_visit_80 : decode cX2_visit 80 = .ok (.aload_n 0, 1) := by decide +kernel
theorem dX2_visit_81 : decode cX2_visit 81 = .ok (.dup, 1) := by decide +kernel
theorem dX2_visit_82 : decode cX2_visit 82 = .ok (.getfield 51, 3) := by decide +kernel
theorem dX2_visit_85 : decode cX2_visit 85 = .ok (.iconst 1, 1) := by decide +kernel
theorem dX2_visit_86 : decode cX2_visit 86 = .ok (.iadd, 1) := by decide +kernel
theorem dX2_visit_87 : decode cX2_visit 87 = .ok (.putfield 51, 3) := by decide +kernel
theorem dX2_visit_90 : decode cX2_visit 90 = .ok (.return_, 1) := by decide +kernel
theorem dX3_init_0 : decode cX3_init 0 = .ok (.aload_n 0, 1) := by decide +kernel
theorem dX3_init_1 : decode cX3_init 1 = .ok (.invokespecial 3, 3) := by decide +kernel
theorem dX3_init_4 : decode cX3_init 4 = .ok (.aload_n 0, 1) := by decide +kernel
theorem dX3_init_5 : decode cX3_init 5 = .ok (.bipush 12, 2) := by decide +kernel
theorem dX3_init_7 : decode cX3_init 7 = .ok (.newarray .int, 2) := by decide +kernel
theorem dX3_init_9 : decode cX3_init 9 = .ok (.putfield 9, 3) := by decide +kernel
theorem dX3_init_12 : decode cX3_init 12 = .ok (.aload_n 0, 1) := by decide +kernel
theorem dX3_init_13 : decode cX3_init 13 = .ok (.bipush 7, 2) := by decide +kernel
theorem dX3_init_15 : decode cX3_init 15 = .ok (.newarray .int, 2) := by decide +kernel
theorem dX3_init_17 : decode cX3_init 17 = .ok (.putfield 15, 3) := by decide +kernel
theorem dX3_init_20 : decode cX3_init 20 = .ok (.aload_n 0, 1) := by decide +kernel
theorem dX3_init_21 : decode cX3_init 21 = .ok (.bipush 49, 2) := by decide +kernel
theorem dX3_init_23 : decode cX3_init 23 = .ok (.newarray .int, 2) := by decide +kernel
theorem dX3_init_25 : decode cX3_init 25 = .ok (.putfield 18, 3) := by decide +kernel
theorem dX3_init_28 : decode cX3_init 28 = .ok (.aload_n 0, 1) := by decide +kernel
theorem dX3_init_29 : decode cX3_init 29 = .ok (.iconst 3, 1) := by decide +kernel
theorem dX3_init_30 : decode cX3_init 30 = .ok (.newarray .int, 2) := by decide +kernel
theorem dX3_init_32 : decode cX3_init 32 = .ok (.putfield 21, 3) := by decide +kernel
theorem dX3_init_35 : decode cX3_init 35 = .ok (.aload_n 0, 1) := by decide +kernel
theorem dX3_init_36 : decode cX3_init 36 = .ok (.iconst 3, 1) := by decide +kernel
theorem dX3_init_37 : decode cX3_init 37 = .ok (.newarray .int, 2) := by decide +kernel
theorem dX3_init_39 : decode cX3_init 39 = .ok (.putfield 24, 3) := by decide +kernel
theorem dX3_init_42 : decode cX3_init 42 = .ok (.aload_n 0, 1) := by decide +kernel
theorem dX3_init_43 : decode cX3_init 43 = .ok (.bipush 126, 2) := by decide +kernel
theorem dX3_init_45 : decode cX3_init 45 = .ok (.newarray .int, 2) := by decide +kernel
theorem dX3_init_47 : decode cX3_init 47 = .ok (.putfield 27, 3) := by decide +kernel
theorem dX3_init_50 : decode cX3_init 50 = .ok (.aload_n 0, 1) := by decide +kernel
theorem dX3_init_51 : decode cX3_init 51 = .ok (.sipush 180, 3) := by decide +kernel
theorem dX3_init_54 : decode cX3_init 54 = .ok (.newarray .int, 2) := by decide +kernel
theorem dX3_init_56 : decode cX3_init 56 = .ok (.putfield 30, 3) := by decide +kernel
theorem dX3_init_59 : decode cX3_init 59 = .ok (.aload_n 0, 1) := by decide +kernel
theorem dX3_init_60 : decode cX3_init 60 = .ok (.sipush 180, 3) := by decide +kernel
theorem dX3_init_63 : decode cX3_init 63 = .ok (.newarray .int, 2) := by decide +kernel
theorem dX3_init_65 : decode cX3_init 65 = .ok (.putfield 33, 3) := by decide +kernel
theorem dX3_init_68 : decode cX3_init 68 = .ok (.aload_n 0, 1) := by decide +kernel
theorem dX3_init_69 : decode cX3_init 69 = .ok (.sipush 180, 3) := by decide +kernel
theorem dX3_init_72 : decode cX3_init 72 = .ok (.newarray .int, 2) := by decide +kernel
theorem dX3_init_74 : decode cX3_init 74 = .ok (.putfield 36, 3) := by decide +kernel
theorem dX3_init_77 : decode cX3_init 77 = .ok (.aload_n 0, 1) := by decide +kernel
theorem dX3_init_78 : decode cX3_init 78 = .ok (.iconst 5, 1) := by decide +kernel
theorem dX3_init_79 : decode cX3_init 79 = .ok (.iconst 5, 1) := by decide +kernel
theorem dX3_init_80 : decode cX3_init 80 = .ok (.invokevirtual 39, 3) := by decide +kernel
theorem dX3_init_83 : decode cX3_init 83 = .ok (.return_, 1) := by decide +kernel
theorem dX3_beginAnew_0 : decode cX3_beginAnew 0 = .ok (.aload_n 0, 1) := by decide +kernel
theorem dX3_beginAnew_1 : decode cX3_beginAnew 1 = .ok (.iload_n 1, 1) := by decide +kernel
theorem dX3_beginAnew_2 : decode cX3_beginAnew 2 = .ok (.putfield 43, 3) := by decide +kernel
theorem dX3_beginAnew_5 : decode cX3_beginAnew 5 = .ok (.aload_n 0, 1) := by decide +kernel
theorem dX3_beginAnew_6 : decode cX3_beginAnew 6 = .ok (.iload_n 2, 1) := by decide +kernel
theorem dX3_beginAnew_7 : decode cX3_beginAnew 7 = .ok (.putfield 47, 3) := by decide +kernel
theorem dX3_beginAnew_10 : decode cX3_beginAnew 10 = .ok (.aload_n 0, 1) := by decide +kernel
theorem dX3_beginAnew_11 : decode cX3_beginAnew 11 = .ok (.iconst 0, 1) := by decide +kernel
theorem dX3_beginAnew_12 : decode cX3_beginAnew 12 = .ok (.putfield 50, 3) := by decide +kernel
theorem dX3_beginAnew_15 : decode cX3_beginAnew 15 = .ok (.aload_n 0, 1) := by decide +kernel
theorem dX3_beginAnew_16 : decode cX3_beginAnew 16 = .ok (.iconst 1, 1) := by decide +kernel
theorem dX3_beginAnew_17 : decode cX3_beginAnew 17 = .ok (.putfield 53, 3) := by decide +kernel
theorem dX3_beginAnew_20 : decode cX3_beginAnew 20 = .ok (.aload_n 0, 1) := by decide +kernel
theorem dX3_beginAnew_21 : decode cX3_beginAnew 21 = .ok (.iconst 5, 1) := by decide +kernel
theorem dX3_beginAnew_22 : decode cX3_beginAnew 22 = .ok (.putfield 56, 3) := by decide +kernel
theorem dX3_beginAnew_25 : decode cX3_beginAnew 25 = .ok (.aload_n 0, 1) := by decide +kernel
theorem dX3_beginAnew_26 : decode cX3_beginAnew 26 = .ok (.iconst 0, 1) := by decide +kernel
theorem dX3_beginAnew_27 : decode cX3_beginAnew 27 = .ok (.putfield 59, 3) := by decide +kernel
theorem dX3_beginAnew_30 : decode cX3_beginAnew 30 = .ok (.aload_n 0, 1) := by decide +kernel
theorem dX3_beginAnew_31 : decode cX3_beginAnew 31 = .ok (.getfield 9, 3) := by decide +kernel
theorem dX3_beginAnew_34 : decode cX3_beginAnew 34 = .ok (.iload_n 1, 1) := by decide +kernel
theorem dX3_beginAnew_35 : decode cX3_beginAnew 35 = .ok (.iconst 2, 1) := by decide +kernel
theorem dX3_beginAnew_36 : decode cX3_beginAnew 36 = .ok (.idiv, 1) := by decide +kernel
theorem dX3_beginAnew_37 : decode cX3_beginAnew 37 = .ok (.invokestatic 62, 3) := by decide +kernel
theorem dX3_beginAnew_40 : decode cX3_beginAnew 40 = .ok (.aload_n 0, 1) := by decide +kernel
theorem dX3_beginAnew_41 : decode cX3_beginAnew 41 = .ok (.getfield 15, 3) := by decide +kernel
theorem dX3_beginAnew_44 : decode cX3_beginAnew 44 = .ok (.iconst 2, 1) := by decide +kernel
theorem dX3_beginAnew_45 : decode cX3_beginAnew 45 = .ok (.invokestatic 62, 3) := by decide +kernel
theorem dX3_beginAnew_48 : decode cX3_beginAnew 48 = .ok (.aload_n 0, 1) := by decide +kernel
theorem dX3_beginAnew_49 : decode cX3_beginAnew 49 = .ok (.getfield 15, 3) := by decide +kernel
theorem dX3_beginAnew_52 : decode cX3_beginAnew 52 = .ok (.iconst 0, 1) := by decide +kernel
theorem dX3_beginAnew_53 : decode cX3_beginAnew 53 = .ok (.iconst 0, 1) := by decide +kernel
theorem dX3_beginAnew_54 : decode cX3_beginAnew 54 = .ok (.iastore, 1) := by decide +kernel
theorem dX3_beginAnew_55 : decode cX3_beginAnew 55 = .ok (.aload_n 0, 1) := by decide +kernel
theorem dX3_beginAnew_56 : decode cX3_beginAnew 56 = .ok (.getfield 18, 3) := by decide +kernel
theorem dX3_beginAnew_59 : decode cX3_beginAnew 59 = .ok (.iconst 0, 1) := by decide +kernel
theorem dX3_beginAnew_60 : decode cX3_beginAnew 60 = .ok (.invokestatic 62, 3) := by decide +kernel
theorem dX3_beginAnew_63 : decode cX3_beginAnew 63 = .ok (.aload_n 0, 1) := by decide +kernel
theorem dX3_beginAnew_64 : decode cX3_beginAnew 64 = .ok (.getfield 21, 3) := by decide +kernel
theorem dX3_beginAnew_67 : decode cX3_beginAnew 67 = .ok (.iconst 0, 1) := by decide +kernel
theorem dX3_beginAnew_68 : decode cX3_beginAnew 68 = .ok (.invokestatic 62, 3) := by decide +kernel
theorem dX3_beginAnew_71 : decode cX3_beginAnew 71 = .ok (.aload_n 0, 1) := by decide +kernel
theorem dX3_beginAnew_72 : decode cX3_beginAnew 72 = .ok (.getfield 24, 3) := by decide +kernel
theorem dX3_beginAnew_75 : decode cX3_beginAnew 75 = .ok (.iconst 0, 1) := by decide +kernel
theorem dX3_beginAnew_76 : decode cX3_beginAnew 76 = .ok (.invokestatic 62, 3) := by decide +kernel
theorem dX3_beginAnew_79 : decode cX3_beginAnew 79 = .ok (.aload_n 0, 1) := by decide +kernel
theorem dX3_beginAnew_80 : decode cX3_beginAnew 80 = .ok (.getfield 27, 3) := by decide +kernel
theorem dX3_beginAnew_83 : decode cX3_beginAnew 83 = .ok (.iconst 0, 1) := by decide +kernel
theorem dX3_beginAnew_84 : decode cX3_beginAnew 84 = .ok (.invokestatic 62, 3) := by decide +kernel
theorem dX3_beginAnew_87 : decode cX3_beginAnew 87 = .ok (.aload_n 0, 1) := by decide +kernel
theorem dX3_beginAnew_88 : decode cX3_beginAnew 88 = .ok (.getfield 30, 3) := by decide +kernel
theorem dX3_beginAnew_91 : decode cX3_beginAnew 91 = .ok (.iconst 0, 1) := by decide +kernel
theorem dX3_beginAnew_92 : decode cX3_beginAnew 92 = .ok (.invokestatic 62, 3) := by decide +kernel
theorem dX3_beginAnew_95 : decode cX3_beginAnew 95 = .ok (.aload_n 0, 1) := by decide +kernel
theorem dX3_beginAnew_96 : decode cX3_beginAnew 96 = .ok (.getfield 33, 3) := by decide +kernel
theorem dX3_beginAnew_99 : decode cX3_beginAnew 99 = .ok (.iconst 0, 1) := by decide +kernel
theorem dX3_beginAnew_100 : decode cX3_beginAnew 100 = .ok (.invokestatic 62, 3) := by decide +kernel
theorem dX3_beginAnew_103 : decode cX3_beginAnew 103 = .ok (.aload_n 0, 1) := by decide +kernel
theorem dX3_beginAnew_104 : decode cX3_beginAnew 104 = .ok (.getfield 36, 3) := by decide +kernel
theorem dX3_beginAnew_107 : decode cX3_beginAnew 107 = .ok (.iconst 0, 1) := by decide +kernel
theorem dX3_beginAnew_108 : decode cX3_beginAnew 108 = .ok (.invokestatic 62, 3) := by decide +kernel
theorem dX3_beginAnew_111 : decode cX3_beginAnew 111 = .ok (.return_, 1) := by decide +kernel
theorem dX3_copyFrom_0 : decode cX3_copyFrom 0 = .ok (.aload_n 0, 1) := by decide +kernel
theorem dX3_copyFrom_1 : decode cX3_copyFrom 1 = .ok (.aload_n 1, 1) := by decide +kernel
theorem dX3_copyFrom_2 : decode cX3_copyFrom 2 = .ok (.getfield 43, 3) := by decide +kernel
theorem dX3_copyFrom_5 : decode cX3_copyFrom 5 = .ok (.putfield 43, 3) := by decide +kernel
theorem dX3_copyFrom_8 : decode cX3_copyFrom 8 = .ok (.aload_n 0, 1) := by decide +kernel
theorem dX3_copyFrom_9 : decode cX3_copyFrom 9 = .ok (.aload_n 1, 1) := by decide +kernel
theorem dX3_copyFrom_10 : decode cX3_copyFrom 10 = .ok (.getfield 47, 3) := by decide +kernel
theorem dX3_copyFrom_13 : decode cX3_copyFrom 13 = .ok (.putfield 47, 3) := by decide +kernel
theorem dX3_copyFrom_16 : decode cX3_copyFrom 16 = .ok (.aload_n 0, 1) := by decide +kernel
theorem dX3_copyFrom_17 : decode cX3_copyFrom 17 = .ok (.aload_n 1, 1) := by decide +kernel
theorem dX3_copyFrom_18 : decode cX3_copyFrom 18 = .ok (.getfield 50, 3) := by decide +kernel
theorem dX3_copyFrom_21 : decode cX3_copyFrom 21 = .ok (.putfield 50, 3) := by decide +kernel
theorem dX3_copyFrom_24 : decode cX3_copyFrom 24 = .ok (.aload_n 0, 1) := by decide +kernel
theorem dX3_copyFrom_25 : decode cX3_copyFrom 25 = .ok (.aload_n 1, 1) := by decide +kernel
theorem dX3_copyFrom_26 : decode cX3_copyFrom 26 = .ok (.getfield 53, 3) := by decide +kernel
theorem dX3_copyFrom_29 : decode cX3_copyFrom 29 = .ok (.putfield 53, 3) := by decide +kernel
theorem dX3_copyFrom_32 : decode cX3_copyFrom 32 = .ok (.aload_n 0, 1) := by decide +kernel
theorem dX3_copyFrom_33 : decode cX3_copyFrom 33 = .ok (.aload_n 1, 1) := by decide +kernel
theorem dX3_copyFrom_34 : decode cX3_copyFrom 34 = .ok (.getfield 56, 3) := by decide +kernel
theorem dX3_copyFrom_37 : decode cX3_copyFrom 37 = .ok (.putfield 56, 3) := by decide +kernel
theorem dX3_copyFrom_40 : decode cX3_copyFrom 40 = .ok (.aload_n 0, 1) := by decide +kernel
theorem dX3_copyFrom_41 : decode cX3_copyFrom 41 = .ok (.aload_n 1, 1) := by decide +kernel
theorem dX3_copyFrom_42 : decode cX3_copyFrom 42 = .ok (.getfield 59, 3) := by decide +kernel
theorem dX3_copyFrom_45 : decode cX3_copyFrom 45 = .ok (.putfield 59, 3) := by decide +kernel
theorem dX3_copyFrom_48 : decode cX3_copyFrom 48 = .ok (.aload_n 1, 1) := by decide +kernel
theorem dX3_copyFrom_49 : decode cX3_copyFrom 49 = .ok (.getfield 9, 3) := by decide +kernel
theorem dX3_copyFrom_52 : decode cX3_copyFrom 52 = .ok (.iconst 0, 1) := by decide +kernel
theorem dX3_copyFrom_53 : decode cX3_copyFrom 53 = .ok (.aload_n 0, 1) := by decide +kernel
theorem dX3_copyFrom_54 : decode cX3_copyFrom 54 = .ok (.getfield 9, 3) := by decide +kernel
theorem dX3_copyFrom_57 : decode cX3_copyFrom 57 = .ok (.iconst 0, 1) := by decide +kernel
theorem dX3_copyFrom_58 : decode cX3_copyFrom 58 = .ok (.aload_n 0, 1) := by decide +kernel
theorem dX3_copyFrom_59 : decode cX3_copyFrom 59 = .ok (.getfield 9, 3) := by decide +kernel
theorem dX3_copyFrom_62 : decode cX3_copyFrom 62 = .ok (.arraylength, 1) := by decide +kernel
theorem dX3_copyFrom_63 : decode cX3_copyFrom 63 = .ok (.invokestatic 68, 3) := by decide +kernel
theorem dX3_copyFrom_66 : decode cX3_copyFrom 66 = .ok (.aload_n 1, 1) := by decide +kernel
theorem dX3_copyFrom_67 : decode cX3_copyFrom 67 = .ok (.getfield 15, 3) := by decide +kernel
theorem dX3_copyFrom_70 : decode cX3_copyFrom 70 = .ok (.iconst 0, 1) := by decide +kernel
theorem dX3_copyFrom_71 : decode cX3_copyFrom 71 = .ok (.aload_n 0, 1) := by decide +kernel
theorem dX3_copyFrom_72 : decode cX3_copyFrom 72 = .ok (.getfield 15, 3) := by decide +kernel
theorem dX3_copyFrom_75 : decode cX3_copyFrom 75 = .ok (.iconst 0, 1) := by decide +kernel
theorem dX3_copyFrom_76 : decode cX3_copyFrom 76 = .ok (.aload_n 0, 1) := by decide +kernel
theorem dX3_copyFrom_77 : decode cX3_copyFrom 77 = .ok (.getfield 15, 3) := by decide +kernel
theorem dX3_copyFrom_80 : decode cX3_copyFrom 80 = .ok (.arraylength, 1) := by decide +kernel
theorem dX3_copyFrom_81 : decode cX3_copyFrom 81 = .ok (.invokestatic 68, 3) := by decide +kernel
theorem dX3_copyFrom_84 : decode cX3_copyFrom 84 = .ok (.aload_n 1, 1) := by decide +kernel
theorem dX3_copyFrom_85 : decode cX3_copyFrom 85 = .ok (.getfield 18, 3) := by decide +kernel
theorem dX3_copyFrom_88 : decode cX3_copyFrom 88 = .ok (.iconst 0, 1) := by decide +kernel
theorem dX3_copyFrom_89 : decode cX3_copyFrom 89 = .ok (.aload_n 0, 1) := by decide +kernel
theorem dX3_copyFrom_90 : decode cX3_copyFrom 90 = .ok (.getfield 18, 3) := by decide +kernel
theorem dX3_copyFrom_93 : decode cX3_copyFrom 93 = .ok (.iconst 0, 1) := by decide +kernel
theorem dX3_copyFrom_94 : decode cX3_copyFrom 94 = .ok (.aload_n 0, 1) := by decide +kernel
theorem dX3_copyFrom_95 : decode cX3_copyFrom 95 = .ok (.getfield 18, 3) := by decide +kernel
theorem dX3_copyFrom_98 : decode cX3_copyFrom 98 = .ok (.arraylength, 1) := by decide +kernel
theorem dX3_copyFrom_99 : decode cX3_copyFrom 99 = .ok (.invokestatic 68, 3) := by decide +kernel
theorem dX3_copyFrom_102 : decode cX3_copyFrom 102 = .ok (.aload_n 1, 1) := by decide +kernel
theorem dX3_copyFrom_103 : decode cX3_copyFrom 103 = .ok (.getfield 21, 3) := by decide +kernel
theorem dX3_copyFrom_106 : decode cX3_copyFrom 106 = .ok (.iconst 0, 1) := by decide +kernel
theorem dX3_copyFrom_107 : decode cX3_copyFrom 107 = .ok (.aload_n 0, 1) := by decide +kernel
theorem dX3_copyFrom_108 : decode cX3_copyFrom 108 = .ok (.getfield 21, 3) := by decide +kernel
theorem dX3_copyFrom_111 : decode cX3_copyFrom 111 = .ok (.iconst 0, 1) := by decide +kernel
theorem dX3_copyFrom_112 : decode cX3_copyFrom 112 = .ok (.aload_n 0, 1) := by decide +kernel
theorem dX3_copyFrom_113 : decode cX3_copyFrom 113 = .ok (.getfield 21, 3) := by decide +kernel
theorem dX3_copyFrom_116 : decode cX3_copyFrom 116 = .ok (.arraylength, 1) := by decide +kernel
theorem dX3_copyFrom_117 : decode cX3_copyFrom 117 = .ok (.invokestatic 68, 3) := by decide +kernel
theorem dX3_copyFrom_120 : decode cX3_copyFrom 120 = .ok (.aload_n 1, 1) := by decide +kernel
theorem dX3_copyFrom_121 : decode cX3_copyFrom 121 = .ok (.getfield 24, 3) := by decide +kernel
theorem dX3_copyFrom_124 : decode cX3_copyFrom 124 = .ok (.iconst 0, 1) := by decide +kernel
theorem dX3_copyFrom_125 : decode cX3_copyFrom 125 = .ok (.aload_n 0, 1) := by decide +kernel
theorem dX3_copyFrom_126 : decode cX3_copyFrom 126 = .ok (.getfield 24, 3) := by decide +kernel
theorem dX3_copyFrom_129 : decode cX3_copyFrom 129 = .ok (.iconst 0, 1) := by decide +kernel
theorem dX3_copyFrom_130 : decode cX3_copyFrom 130 = .ok (.aload_n 0, 1) := by decide +kernel
theorem dX3_copyFrom_131 : decode cX3_copyFrom 131 = .ok (.getfield 24, 3) := by decide +kernel
theorem dX3_copyFrom_134 : decode cX3_copyFrom 134 = .ok (.arraylength, 1) := by decide +kernel
theorem dX3_copyFrom_135 : decode cX3_copyFrom 135 = .ok (.invokestatic 68, 3) := by decide +kernel
theorem dX3_copyFrom_138 : decode cX3_copyFrom 138 = .ok (.aload_n 1, 1) := by decide +kernel
theorem dX3_copyFrom_139 : decode cX3_copyFrom 139 = .ok (.getfield 27, 3) := by decide +kernel
theorem dX3_copyFrom_142 : decode cX3_copyFrom 142 = .ok (.iconst 0, 1) := by decide +kernel
theorem dX3_copyFrom_143 : decode cX3_copyFrom 143 = .ok (.aload_n 0, 1) := by decide +kernel
theorem dX3_copyFrom_144 : decode cX3_copyFrom 144 = .ok (.getfield 27, 3) := by decide +kernel
theorem dX3_copyFrom_147 : decode cX3_copyFrom 147 = .ok (.iconst 0, 1) := by decide +kernel
theorem dX3_copyFrom_148 : decode cX3_copyFrom 148 = .ok (.aload_n 0, 1) := by decide +kernel
theorem dX3_copyFrom_149 : decode cX3_copyFrom 149 = .ok (.getfield 27, 3) := by decide +kernel
theorem dX3_copyFrom_152 : decode cX3_copyFrom 152 = .ok (.arraylength, 1) := by decide +kernel
theorem dX3_copyFrom_153 : decode cX3_copyFrom 153 = .ok (.invokestatic 68, 3) := by decide +kernel
theorem dX3_copyFrom_156 : decode cX3_copyFrom 156 = .ok (.aload_n 1, 1) := by decide +kernel
theorem dX3_copyFrom_157 : decode cX3_copyFrom 157 = .ok (.getfield 30, 3) := by decide +kernel
theorem dX3_copyFrom_160 : decode cX3_copyFrom 160 = .ok (.iconst 0, 1) := by decide +kernel
theorem dX3_copyFrom_161 : decode cX3_copyFrom 161 = .ok (.aload_n 0, 1) := by decide +kernel
theorem dX3_copyFrom_162 : decode cX3_copyFrom 162 = .ok (.getfield 30, 3) := by decide +kernel
theorem dX3_copyFrom_165 : decode cX3_copyFrom 165 = .ok (.iconst 0, 1) := by decide +kernel
theorem dX3_copyFrom_166 : decode cX3_copyFrom 166 = .ok (.aload_n 0, 1) := by decide +kernel
theorem dX3_copyFrom_167 : decode cX3_copyFrom 167 = .ok (.getfield 30, 3) := by decide +kernel
theorem dX3_copyFrom_170 : decode cX3_copyFrom 170 = .ok (.arraylength, 1) := by decide +kernel
theorem dX3_copyFrom_171 : decode cX3_copyFrom 171 = .ok (.invokestatic 68, 3) := by decide +kernel
theorem dX3_copyFrom_174 : decode cX3_copyFrom 174 = .ok (.aload_n 1, 1) := by decide +kernel
theorem dX3_copyFrom_175 : decode cX3_copyFrom 175 = .ok (.getfield 33, 3) := by decide +kernel
theorem dX3_copyFrom_178 : decode cX3_copyFrom 178 = .ok (.iconst 0, 1) := by decide +kernel
theorem dX3_copyFrom_179 : decode cX3_copyFrom 179 = .ok (.aload_n 0, 1) := by decide +kernel
theorem dX3_copyFrom_180 : decode cX3_copyFrom 180 = .ok (.getfield 33, 3) := by decide +kernel
theorem dX3_copyFrom_183 : decode cX3_copyFrom 183 = .ok (.iconst 0, 1) := by decide +kernel
theorem dX3_copyFrom_184 : decode cX3_copyFrom 184 = .ok (.aload_n 0, 1) := by decide +kernel
theorem dX3_copyFrom_185 : decode cX3_copyFrom 185 = .ok (.getfield 33, 3) := by decide +kernel
theorem dX3_copyFrom_188 : decode cX3_copyFrom 188 = .ok (.arraylength, 1) := by decide +kernel
theorem dX3_copyFrom_189 : decode cX3_copyFrom 189 = .ok (.invokestatic 68, 3) := by decide +kernel
theorem dX3_copyFrom_192 : decode cX3_copyFrom 192 = .ok (.aload_n 1, 1) := by decide +kernel
theorem dX3_copyFrom_193 : decode cX3_copyFrom 193 = .ok (.getfield 36, 3) := by decide +kernel
theorem dX3_copyFrom_196 : decode cX3_copyFrom 196 = .ok (.iconst 0, 1) := by decide +kernel
theorem dX3_copyFrom_197 : decode cX3_copyFrom 197 = .ok (.aload_n 0, 1) := by decide +kernel
theorem dX3_copyFrom_198 : decode cX3_copyFrom 198 = .ok (.getfield 36, 3) := by decide +kernel
theorem dX3_copyFrom_201 : decode cX3_copyFrom 201 = .ok (.iconst 0, 1) := by decide +kernel
theorem dX3_copyFrom_202 : decode cX3_copyFrom 202 = .ok (.aload_n 0, 1) := by decide +kernel
theorem dX3_copyFrom_203 : decode cX3_copyFrom 203 = .ok (.getfield 36, 3) := by decide +kernel
theorem dX3_copyFrom_206 : decode cX3_copyFrom 206 = .ok (.arraylength, 1) := by decide +kernel
theorem dX3_copyFrom_207 : decode cX3_copyFrom 207 = .ok (.invokestatic 68, 3) := by decide +kernel
theorem dX3_copyFrom_210 : decode cX3_copyFrom 210 = .ok (.return_, 1) := by decide +kernel
theorem dX3_middle_0 : decode cX3_middle 0 = .ok (.aload_n 0, 1) := by decide +kernel
theorem dX3_middle_1 : decode cX3_middle 1 = .ok (.getfield 43, 3) := by decide +kernel
theorem dX3_middle_4 : decode cX3_middle 4 = .ok (.iconst 2, 1) := by decide +kernel
theorem dX3_middle_5 : decode cX3_middle 5 = .ok (.idiv, 1) := by decide +kernel
theorem dX3_middle_6 : decode cX3_middle 6 = .ok (.ireturn, 1) := by decide +kernel
theorem dX3_firstX_0 : decode cX3_firstX 0 = .ok (.aload_n 0, 1) := by decide +kernel
theorem dX3_firstX_1 : decode cX3_firstX 1 = .ok (.invokevirtual 74, 3) := by decide +kernel
theorem dX3_firstX_4 : decode cX3_firstX 4 = .ok (.aload_n 0, 1) := by decide +kernel
theorem dX3_firstX_5 : decode cX3_firstX 5 = .ok (.getfield 9, 3) := by decide +kernel
theorem dX3_firstX_8 : decode cX3_firstX 8 = .ok (.iload_n 1, 1) := by decide +kernel
theorem dX3_firstX_9 : decode cX3_firstX 9 = .ok (.iaload, 1) := by decide +kernel
theorem dX3_firstX_10 : decode cX3_firstX 10 = .ok (.isub, 1) := by decide +kernel
theorem dX3_firstX_11 : decode cX3_firstX 11 = .ok (.ireturn, 1) := by decide +kernel
theorem dX3_lastX_0 : decode cX3_lastX 0 = .ok (.aload_n 0, 1) := by decide +kernel
theorem dX3_lastX_1 : decode cX3_lastX 1 = .ok (.invokevirtual 74, 3) := by decide +kernel
theorem dX3_lastX_4 : decode cX3_lastX 4 = .ok (.aload_n 0, 1) := by decide +kernel
theorem dX3_lastX_5 : decode cX3_lastX 5 = .ok (.getfield 9, 3) := by decide +kernel
theorem dX3_lastX_8 : decode cX3_lastX 8 = .ok (.iload_n 1, 1) := by decide +kernel
theorem dX3_lastX_9 : decode cX3_lastX 9 = .ok (.iaload, 1) := by decide +kernel
theorem dX3_lastX_10 : decode cX3_lastX 10 = .ok (.iadd, 1) := by decide +kernel
theorem dX3_lastX_11 : decode cX3_lastX 11 = .ok (.ireturn, 1) := by decide +kernel
theorem dX3_holds_0 : decode cX3_holds 0 = .ok (.iload_n 2, 1) := by decide +kernel
theorem dX3_holds_1 : decode cX3_holds 1 = .ok (.ifCond .lt 33, 3) := by decide +kernel
theorem dX3_holds_4 : decode cX3_holds 4 = .ok (.iload_n 2, 1) := by decide +kernel
theorem dX3_holds_5 : decode cX3_holds 5 = .ok (.aload_n 0, 1) := by decide +kernel
theorem dX3_holds_6 : decode cX3_holds 6 = .ok (.getfield 47, 3) := by decide +kernel
theorem dX3_holds_9 : decode cX3_holds 9 = .ok (.if_icmp .ge 25, 3) := by decide +kernel
theorem dX3_holds_12 : decode cX3_holds 12 = .ok (.iload_n 1, 1) := by decide +kernel
theorem dX3_holds_13 : decode cX3_holds 13 = .ok (.aload_n 0, 1) := by decide +kernel
theorem dX3_holds_14 : decode cX3_holds 14 = .ok (.iload_n 2, 1) := by decide +kernel
theorem dX3_holds_15 : decode cX3_holds 15 = .ok (.invokevirtual 78, 3) := by decide +kernel
theorem dX3_holds_18 : decode cX3_holds 18 = .ok (.if_icmp .lt 16, 3) := by decide +kernel
theorem dX3_holds_21 : decode cX3_holds 21 = .ok (.iload_n 1, 1) := by decide +kernel
theorem dX3_holds_22 : decode cX3_holds 22 = .ok (.aload_n 0, 1) := by decide +kernel
theorem dX3_holds_23 : decode cX3_holds 23 = .ok (.iload_n 2, 1) := by decide +kernel
theorem dX3_holds_24 : decode cX3_holds 24 = .ok (.invokevirtual 82, 3) := by decide +kernel
theorem dX3_holds_27 : decode cX3_holds 27 = .ok (.if_icmp .gt 7, 3) := by decide +kernel
theorem dX3_holds_30 : decode cX3_holds 30 = .ok (.iconst 1, 1) := by decide +kernel
theorem dX3_holds_31 : decode cX3_holds 31 = .ok (.goto 4, 3) := by decide +kernel
theorem dX3_holds_34 : decode cX3_holds 34 = .ok (.iconst 0, 1) := by decide +kernel
theorem dX3_holds_35 : decode cX3_holds 35 = .ok (.ireturn, 1) := by decide +kernel
theorem dX3_numberOf_0 : decode cX3_numberOf 0 = .ok (.iload_n 2, 1) := by decide +kernel
theorem dX3_numberOf_1 : decode cX3_numberOf 1 = .ok (.aload_n 0, 1) := by decide +kernel
theorem dX3_numberOf_2 : decode cX3_numberOf 2 = .ok (.getfield 43, 3) := by decide +kernel
theorem dX3_numberOf_5 : decode cX3_numberOf 5 = .ok (.imul, 1) := by decide +kernel
theorem dX3_numberOf_6 : decode cX3_numberOf 6 = .ok (.iload_n 1, 1) := by decide +kernel
theorem dX3_numberOf_7 : decode cX3_numberOf 7 = .ok (.iadd, 1) := by decide +kernel
theorem dX3_numberOf_8 : decode cX3_numberOf 8 = .ok (.ireturn, 1) := by decide +kernel
theorem dX3_mirrorX_0 : decode cX3_mirrorX 0 = .ok (.aload_n 0, 1) := by decide +kernel
theorem dX3_mirrorX_1 : decode cX3_mirrorX 1 = .ok (.getfield 43, 3) := by decide +kernel
theorem dX3_mirrorX_4 : decode cX3_mirrorX 4 = .ok (.iconst 1, 1) := by decide +kernel
theorem dX3_mirrorX_5 : decode cX3_mirrorX 5 = .ok (.isub, 1) := by decide +kernel
theorem dX3_mirrorX_6 : decode cX3_mirrorX 6 = .ok (.iload_n 1, 1) := by decide +kernel
theorem dX3_mirrorX_7 : decode cX3_mirrorX 7 = .ok (.isub, 1) := by decide +kernel
theorem dX3_mirrorX_8 : decode cX3_mirrorX 8 = .ok (.ireturn, 1) := by decide +kernel
theorem dX3_sideOf_0 : decode cX3_sideOf 0 = .ok (.iload_n 1, 1) := by decide +kernel
theorem dX3_sideOf_1 : decode cX3_sideOf 1 = .ok (.aload_n 0, 1) := by decide +kernel
theorem dX3_sideOf_2 : decode cX3_sideOf 2 = .ok (.invokevirtual 74, 3) := by decide +kernel
theorem dX3_sideOf_5 : decode cX3_sideOf 5 = .ok (.invokestatic 85, 3) := by decide +kernel
theorem dX3_sideOf_8 : decode cX3_sideOf 8 = .ok (.ireturn, 1) := by decide +kernel
theorem dX3_mixOf_0 : decode cX3_mixOf 0 = .ok (.iload_n 1, 1) := by decide +kernel
theorem dX3_mixOf_1 : decode cX3_mixOf 1 = .ok (.iload_n 2, 1) := by decide +kernel
theorem dX3_mixOf_2 : decode cX3_mixOf 2 = .ok (.if_icmp .ne 5, 3) := by decide +kernel
theorem dX3_mixOf_5 : decode cX3_mixOf 5 = .ok (.iload_n 1, 1) := by decide +kernel
theorem dX3_mixOf_6 : decode cX3_mixOf 6 = .ok (.ireturn, 1) := by decide +kernel
theorem dX3_mixOf_7 : decode cX3_mixOf 7 = .ok (.aload_n 0, 1) := by decide +kernel
theorem dX3_mixOf_8 : decode cX3_mixOf 8 = .ok (.iload_n 1, 1) := by decide +kernel
theorem dX3_mixOf_9 : decode cX3_mixOf 9 = .ok (.iload_n 2, 1) := by decide +kernel
theorem dX3_mixOf_10 : decode cX3_mixOf 10 = .ok (.invokevirtual 91, 3) := by decide +kernel
theorem dX3_mixOf_13 : decode cX3_mixOf 13 = .ok (.istore_n 3, 1) := by decide +kernel
theorem dX3_mixOf_14 : decode cX3_mixOf 14 = .ok (.iload_n 3, 1) := by decide +kernel
theorem dX3_mixOf_15 : decode cX3_mixOf 15 = .ok (.ifCond .eq 7, 3) := by decide +kernel
theorem dX3_mixOf_18 : decode cX3_mixOf 18 = .ok (.iload_n 3, 1) := by decide +kernel
theorem dX3_mixOf_19 : decode cX3_mixOf 19 = .ok (.goto 8, 3) := by decide +kernel
theorem dX3_mixOf_22 : decode cX3_mixOf 22 = .ok (.iload_n 1, 1) := by decide +kernel
theorem dX3_mixOf_23 : decode cX3_mixOf 23 = .ok (.iload_n 2, 1) := by decide +kernel
theorem dX3_mixOf_24 : decode cX3_mixOf 24 = .ok (.invokestatic 94, 3) := by decide +kernel
theorem dX3_mixOf_27 : decode cX3_mixOf 27 = .ok (.ireturn, 1) := by decide +kernel
theorem dX3_toldMix_0 : decode cX3_toldMix 0 = .ok (.aload_n 0, 1) := by decide +kernel
theorem dX3_toldMix_1 : decode cX3_toldMix 1 = .ok (.getfield 18, 3) := by decide +kernel
theorem dX3_toldMix_4 : decode cX3_toldMix 4 = .ok (.iload_n 1, 1) := by decide +kernel
theorem dX3_toldMix_5 : decode cX3_toldMix 5 = .ok (.bipush 7, 2) := by decide +kernel
theorem dX3_toldMix_7 : decode cX3_toldMix 7 = .ok (.imul, 1) := by decide +kernel
theorem dX3_toldMix_8 : decode cX3_toldMix 8 = .ok (.iload_n 2, 1) := by decide +kernel
theorem dX3_toldMix_9 : decode cX3_toldMix 9 = .ok (.iadd, 1) := by decide +kernel
theorem dX3_toldMix_10 : decode cX3_toldMix 10 = .ok (.iaload, 1) := by decide +kernel
theorem dX3_toldMix_11 : decode cX3_toldMix 11 = .ok (.ireturn, 1) := by decide +kernel
theorem dX3_tellMix_0 : decode cX3_tellMix 0 = .ok (.aload_n 0, 1) := by decide +kernel
theorem dX3_tellMix_1 : decode cX3_tellMix 1 = .ok (.getfield 18, 3) := by decide +kernel
theorem dX3_tellMix_4 : decode cX3_tellMix 4 = .ok (.iload_n 1, 1) := by decide +kernel
theorem dX3_tellMix_5 : decode cX3_tellMix 5 = .ok (.bipush 7, 2) := by decide +kernel
theorem dX3_tellMix_7 : decode cX3_tellMix 7 = .ok (.imul, 1) := by decide +kernel
theorem dX3_tellMix_8 : decode cX3_tellMix 8 = .ok (.iload_n 2, 1) := by decide +kernel
theorem dX3_tellMix_9 : decode cX3_tellMix 9 = .ok (.iadd, 1) := by decide +kernel
theorem dX3_tellMix_10 : decode cX3_tellMix 10 = .ok (.iload_n 3, 1) := by decide +kernel
theorem dX3_tellMix_11 : decode cX3_tellMix 11 = .ok (.iastore, 1) := by decide +kernel
theorem dX3_tellMix_12 : decode cX3_tellMix 12 = .ok (.aload_n 0, 1) := by decide +kernel
theorem dX3_tellMix_13 : decode cX3_tellMix 13 = .ok (.getfield 18, 3) := by decide +kernel
theorem dX3_tellMix_16 : decode cX3_tellMix 16 = .ok (.iload_n 2, 1) := by decide +kernel
theorem dX3_tellMix_17 : decode cX3_tellMix 17 = .ok (.bipush 7, 2) := by decide +kernel
theorem dX3_tellMix_19 : decode cX3_tellMix 19 = .ok (.imul, 1) := by decide +kernel
theorem dX3_tellMix_20 : decode cX3_tellMix 20 = .ok (.iload_n 1, 1) := by decide +kernel
theorem dX3_tellMix_21 : decode cX3_tellMix 21 = .ok (.iadd, 1) := by decide +kernel
theorem dX3_tellMix_22 : decode cX3_tellMix 22 = .ok (.iload_n 3, 1) := by decide +kernel
theorem dX3_tellMix_23 : decode cX3_tellMix 23 = .ok (.iastore, 1) := by decide +kernel
theorem dX3_tellMix_24 : decode cX3_tellMix 24 = .ok (.return_, 1) := by decide +kernel
theorem dX3_allCells_0 : decode cX3_allCells 0 = .ok (.iconst 0, 1) := by decide +kernel
theorem dX3_allCells_1 : decode cX3_allCells 1 = .ok (.istore_n 1, 1) := by decide +kernel
theorem dX3_allCells_2 : decode cX3_allCells 2 = .ok (.iconst 0, 1) := by decide +kernel
theorem dX3_allCells_3 : decode cX3_allCells 3 = .ok (.istore_n 2, 1) := by decide +kernel
theorem dX3_allCells_4 : decode cX3_allCells 4 = .ok (.iload_n 2, 1) := by decide +kernel
theorem dX3_allCells_5 : decode cX3_allCells 5 = .ok (.aload_n 0, 1) := by decide +kernel
theorem dX3_allCells_6 : decode cX3_allCells 6 = .ok (.getfield 47, 3) := by decide +kernel
theorem dX3_allCells_9 : decode cX3_allCells 9 = .ok (.if_icmp .ge 22, 3) := by decide +kernel
theorem dX3_allCells_12 : decode cX3_allCells 12 = .ok (.iload_n 1, 1) := by decide +kernel
theorem dX3_allCells_13 : decode cX3_allCells 13 = .ok (.iconst 2, 1) := by decide +kernel
theorem dX3_allCells_14 : decode cX3_allCells 14 = .ok (.aload_n 0, 1) := by decide +kernel
theorem dX3_allCells_15 : decode cX3_allCells 15 = .ok (.getfield 9, 3) := by decide +kernel
theorem dX3_allCells_18 : decode cX3_allCells 18 = .ok (.iload_n 2, 1) := by decide +kernel
theorem dX3_allCells_19 : decode cX3_allCells 19 = .ok (.iaload, 1) := by decide +kernel
theorem dX3_allCells_20 : decode cX3_allCells 20 = .ok (.imul, 1) := by decide +kernel
theorem dX3_allCells_21 : decode cX3_allCells 21 = .ok (.iconst 1, 1) := by decide +kernel
theorem dX3_allCells_22 : decode cX3_allCells 22 = .ok (.iadd, 1) := by decide +kernel
theorem dX3_allCells_23 : decode cX3_allCells 23 = .ok (.iadd, 1) := by decide +kernel
theorem dX3_allCells_24 : decode cX3_allCells 24 = .ok (.istore_n 1, 1) := by decide +kernel
theorem dX3_allCells_25 : decode cX3_allCells 25 = .ok (.iinc 2 1, 3) := by decide +kernel
theorem dX3_allCells_28 : decode cX3_allCells 28 = .ok (.goto (-24), 3) := by decide +kernel
theorem dX3_allCells_31 : decode cX3_allCells 31 = .ok (.iload_n 1, 1) := by decide +kernel
theorem dX3_allCells_32 : decode cX3_allCells 32 = .ok (.ireturn, 1) := by decide +kernel
theorem dX3_cellsWithSpars_0 : decode cX3_cellsWithSpars 0 = .ok (.iconst 0, 1) := by decide +kernel
theorem dX3_cellsWithSpars_1 : decode cX3_cellsWithSpars 1 = .ok (.istore_n 1, 1) := by decide +kernel
theorem dX3_cellsWithSpars_2 : decode cX3_cellsWithSpars 2 = .ok (.aload_n 0, 1) := by decide +kernel
theorem dX3_cellsWithSpars_3 : decode cX3_cellsWithSpars 3 = .ok (.getfield 36, 3) := by decide +kernel
theorem dX3_cellsWithSpars_6 : decode cX3_cellsWithSpars 6 = .ok (.astore_n 2, 1) := by decide +kernel
theorem dX3_cellsWithSpars_7 : decode cX3_cellsWithSpars 7 = .ok (.aload_n 2, 1) := by decide +kernel
theorem dX3_cellsWithSpars_8 : decode cX3_cellsWithSpars 8 = .ok (.arraylength, 1) := by decide +kernel
theorem dX3_cellsWithSpars_9 : decode cX3_cellsWithSpars 9 = .ok (.istore_n 3, 1) := by decide +kernel
theorem dX3_cellsWithSpars_10 : decode cX3_cellsWithSpars 10 = .ok (.iconst 0, 1) := by decide +kernel
theorem dX3_cellsWithSpars_11 : decode cX3_cellsWithSpars 11 = .ok (.istore 4, 2) := by decide +kernel
theorem dX3_cellsWithSpars_13 : decode cX3_cellsWithSpars 13 = .ok (.iload 4, 2) := by decide +kernel
theorem dX3_cellsWithSpars_15 : decode cX3_cellsWithSpars 15 = .ok (.iload_n 3, 1) := by decide +kernel
theorem dX3_cellsWithSpars_16 : decode cX3_cellsWithSpars 16 = .ok (.if_icmp .ge 20, 3) := by decide +kernel
theorem dX3_cellsWithSpars_19 : decode cX3_cellsWithSpars 19 = .ok (.aload_n 2, 1) := by decide +kernel
theorem dX3_cellsWithSpars_20 : decode cX3_cellsWithSpars 20 = .ok (.iload 4, 2) := by decide +kernel
theorem dX3_cellsWithSpars_22 : decode cX3_cellsWithSpars 22 = .ok (.iaload, 1) := by decide +kernel
theorem dX3_cellsWithSpars_23 : decode cX3_cellsWithSpars 23 = .ok (.istore 5, 2) := by decide +kernel
theorem dX3_cellsWithSpars_25 : decode cX3_cellsWithSpars 25 = .ok (.iload_n 1, 1) := by decide +kernel
theorem dX3_cellsWithSpars_26 : decode cX3_cellsWithSpars 26 = .ok (.iload 5, 2) := by decide +kernel
theorem dX3_cellsWithSpars_28 : decode cX3_cellsWithSpars 28 = .ok (.iadd, 1) := by decide +kernel
theorem dX3_cellsWithSpars_29 : decode cX3_cellsWithSpars 29 = .ok (.istore_n 1, 1) := by decide +kernel
theorem dX3_cellsWithSpars_30 : decode cX3_cellsWithSpars 30 = .ok (.iinc 4 1, 3) := by decide +kernel
theorem dX3_cellsWithSpars_33 : decode cX3_cellsWithSpars 33 = .ok (.goto (-20), 3) := by decide +kernel
theorem dX3_cellsWithSpars_36 : decode cX3_cellsWithSpars 36 = .ok (.iload_n 1, 1) := by decide +kernel
theorem dX3_cellsWithSpars_37 : decode cX3_cellsWithSpars 37 = .ok (.ireturn, 1) := by decide +kernel
theorem dX3_cellsOfColour_0 : decode cX3_cellsOfColour 0 = .ok (.iconst 0, 1) := by decide +kernel
theorem dX3_cellsOfColour_1 : decode cX3_cellsOfColour 1 = .ok (.istore_n 2, 1) := by decide +kernel
theorem dX3_cellsOfColour_2 : decode cX3_cellsOfColour 2 = .ok (.iconst 0, 1) := by decide +kernel
theorem dX3_cellsOfColour_3 : decode cX3_cellsOfColour 3 = .ok (.istore_n 3, 1) := by decide +kernel
theorem dX3_cellsOfColour_4 : decode cX3_cellsOfColour 4 = .ok (.iload_n 3, 1) := by decide +kernel
theorem dX3_cellsOfColour_5 : decode cX3_cellsOfColour 5 = .ok (.aload_n 0, 1) := by decide +kernel
theorem dX3_cellsOfColour_6 : decode cX3_cellsOfColour 6 = .ok (.getfield 47, 3) := by decide +kernel
theorem dX3_cellsOfColour_9 : decode cX3_cellsOfColour 9 = .ok (.if_icmp .ge 56, 3) := by decide +kernel
theorem dX3_cellsOfColour_12 : decode cX3_cellsOfColour 12 = .ok (.aload_n 0, 1) := by decide +kernel
theorem dX3_cellsOfColour_13 : decode cX3_cellsOfColour 13 = .ok (.iload_n 3, 1) := by decide +kernel
theorem dX3_cellsOfColour_14 : decode cX3_cellsOfColour 14 = .ok (.invokevirtual 78, 3) := by decide +kernel
theorem dX3_cellsOfColour_17 : decode cX3_cellsOfColour 17 = .ok (.istore 4, 2) := by decide +kernel
theorem dX3_cellsOfColour_19 : decode cX3_cellsOfColour 19 = .ok (.iload 4, 2) := by decide +kernel
theorem dX3_cellsOfColour_21 : decode cX3_cellsOfColour 21 = .ok (.aload_n 0, 1) := by decide +kernel
theorem dX3_cellsOfColour_22 : decode cX3_cellsOfColour 22 = .ok (.iload_n 3, 1) := by decide +kernel
theorem dX3_cellsOfColour_23 : decode cX3_cellsOfColour 23 = .ok (.invokevirtual 82, 3) := by decide +kernel
theorem dX3_cellsOfColour_26 : decode cX3_cellsOfColour 26 = .ok (.if_icmp .gt 33, 3) := by decide +kernel
theorem dX3_cellsOfColour_29 : decode cX3_cellsOfColour 29 = .ok (.iload_n 2, 1) := by decide +kernel
theorem dX3_cellsOfColour_30 : decode cX3_cellsOfColour 30 = .ok (.aload_n 0, 1) := by decide +kernel
theorem dX3_cellsOfColour_31 : decode cX3_cellsOfColour 31 = .ok (.getfield 30, 3) := by decide +kernel
theorem dX3_cellsOfColour_34 : decode cX3_cellsOfColour 34 = .ok (.aload_n 0, 1) := by decide +kernel
theorem dX3_cellsOfColour_35 : decode cX3_cellsOfColour 35 = .ok (.iload 4, 2) := by decide +kernel
theorem dX3_cellsOfColour_37 : decode cX3_cellsOfColour 37 = .ok (.iload_n 3, 1) := by decide +kernel
theorem dX3_cellsOfColour_38 : decode cX3_cellsOfColour 38 = .ok (.invokevirtual 99, 3) := by decide +kernel
theorem dX3_cellsOfColour_41 : decode cX3_cellsOfColour 41 = .ok (.iaload, 1) := by decide +kernel
theorem dX3_cellsOfColour_42 : decode cX3_cellsOfColour 42 = .ok (.iload_n 1, 1) := by decide +kernel
theorem dX3_cellsOfColour_43 : decode cX3_cellsOfColour 43 = .ok (.if_icmp .ne 7, 3) := by decide +kernel
theorem dX3_cellsOfColour_46 : decode cX3_cellsOfColour 46 = .ok (.iconst 1, 1) := by decide +kernel
theorem dX3_cellsOfColour_47 : decode cX3_cellsOfColour 47 = .ok (.goto 4, 3) := by decide +kernel
theorem dX3_cellsOfColour_50 : decode cX3_cellsOfColour 50 = .ok (.iconst 0, 1) := by decide +kernel
theorem dX3_cellsOfColour_51 : decode cX3_cellsOfColour 51 = .ok (.iadd, 1) := by decide +kernel
theorem dX3_cellsOfColour_52 : decode cX3_cellsOfColour 52 = .ok (.istore_n 2, 1) := by decide +kernel
theorem dX3_cellsOfColour_53 : decode cX3_cellsOfColour 53 = .ok (.iinc 4 1, 3) := by decide +kernel
theorem dX3_cellsOfColour_56 : decode cX3_cellsOfColour 56 = .ok (.goto (-37), 3) := by decide +kernel
theorem dX3_cellsOfColour_59 : decode cX3_cellsOfColour 59 = .ok (.iinc 3 1, 3) := by decide +kernel
theorem dX3_cellsOfColour_62 : decode cX3_cellsOfColour 62 = .ok (.goto (-58), 3) := by decide +kernel
theorem dX3_cellsOfColour_65 : decode cX3_cellsOfColour 65 = .ok (.iload_n 2, 1) := by decide +kernel
theorem dX3_cellsOfColour_66 : decode cX3_cellsOfColour 66 = .ok (.ireturn, 1) := by decide +kernel
theorem dX3_cellsOfOtherColour_0 : decode cX3_cellsOfOtherColour 0 = .ok (.iconst 0, 1) := by decide +kernel
theorem dX3_cellsOfOtherColour_1 : decode cX3_cellsOfOtherColour 1 = .ok (.istore_n 2, 1) := by decide +kernel
theorem dX3_cellsOfOtherColour_2 : decode cX3_cellsOfOtherColour 2 = .ok (.iconst 0, 1) := by decide +kernel
theorem dX3_cellsOfOtherColour_3 : decode cX3_cellsOfOtherColour 3 = .ok (.istore_n 3, 1) := by decide +kernel
theorem dX3_cellsOfOtherColour_4 : decode cX3_cellsOfOtherColour 4 = .ok (.iload_n 3, 1) := by decide +kernel
theorem dX3_cellsOfOtherColour_5 : decode cX3_cellsOfOtherColour 5 = .ok (.sipush 180, 3) := by decide +kernel
theorem dX3_cellsOfOtherColour_8 : decode cX3_cellsOfOtherColour 8 = .ok (.if_icmp .ge 32, 3) := by decide +kernel
theorem dX3_cellsOfOtherColour_11 : decode cX3_cellsOfOtherColour 11 = .ok (.iload_n 2, 1) := by decide +kernel
theorem dX3_cellsOfOtherColour_12 : decode cX3_cellsOfOtherColour 12 = .ok (.aload_n 0, 1) := by decide +kernel
theorem dX3_cellsOfOtherColour_13 : decode cX3_cellsOfOtherColour 13 = .ok (.getfield 30, 3) := by decide +kernel
theorem dX3_cellsOfOtherColour_16 : decode cX3_cellsOfOtherColour 16 = .ok (.iload_n 3, 1) := by decide +kernel
theorem dX3_cellsOfOtherColour_17 : decode cX3_cellsOfOtherColour 17 = .ok (.iaload, 1) := by decide +kernel
theorem dX3_cellsOfOtherColour_18 : decode cX3_cellsOfOtherColour 18 = .ok (.aload_n 1, 1) := by decide +kernel
theorem dX3_cellsOfOtherColour_19 : decode cX3_cellsOfOtherColour 19 = .ok (.getfield 30, 3) := by decide +kernel
theorem dX3_cellsOfOtherColour_22 : decode cX3_cellsOfOtherColour 22 = .ok (.iload_n 3, 1) := by decide +kernel
theorem dX3_cellsOfOtherColour_23 : decode cX3_cellsOfOtherColour 23 = .ok (.iaload, 1) := by decide +kernel
theorem dX3_cellsOfOtherColour_24 : decode cX3_cellsOfOtherColour 24 = .ok (.if_icmp .eq 7, 3) := by decide +kernel
theorem dX3_cellsOfOtherColour_27 : decode cX3_cellsOfOtherColour 27 = .ok (.iconst 1, 1) := by decide +kernel
theorem dX3_cellsOfOtherColour_28 : decode cX3_cellsOfOtherColour 28 = .ok (.goto 4, 3) := by decide +kernel
theorem dX3_cellsOfOtherColour_31 : decode cX3_cellsOfOtherColour 31 = .ok (.iconst 0, 1) := by decide +kernel
theorem dX3_cellsOfOtherColour_32 : decode cX3_cellsOfOtherColour 32 = .ok (.iadd, 1) := by decide +kernel
theorem dX3_cellsOfOtherColour_33 : decode cX3_cellsOfOtherColour 33 = .ok (.istore_n 2, 1) := by decide +kernel
theorem dX3_cellsOfOtherColour_34 : decode cX3_cellsOfOtherColour 34 = .ok (.iinc 3 1, 3) := by decide +kernel
theorem dX3_cellsOfOtherColour_37 : decode cX3_cellsOfOtherColour 37 = .ok (.goto (-33), 3) := by decide +kernel
theorem dX3_cellsOfOtherColour_40 : decode cX3_cellsOfOtherColour 40 = .ok (.iload_n 2, 1) := by decide +kernel
theorem dX3_cellsOfOtherColour_41 : decode cX3_cellsOfOtherColour 41 = .ok (.ireturn, 1) := by decide +kernel
theorem dX3_wetCells_0 : decode cX3_wetCells 0 = .ok (.iconst 0, 1) := by decide +kernel
theorem dX3_wetCells_1 : decode cX3_wetCells 1 = .ok (.istore_n 1, 1) := by decide +kernel
theorem dX3_wetCells_2 : decode cX3_wetCells 2 = .ok (.aload_n 0, 1) := by decide +kernel
theorem dX3_wetCells_3 : decode cX3_wetCells 3 = .ok (.getfield 33, 3) := by decide +kernel
theorem dX3_wetCells_6 : decode cX3_wetCells 6 = .ok (.astore_n 2, 1) := by decide +kernel
theorem dX3_wetCells_7 : decode cX3_wetCells 7 = .ok (.aload_n 2, 1) := by decide +kernel
theorem dX3_wetCells_8 : decode cX3_wetCells 8 = .ok (.arraylength, 1) := by decide +kernel
theorem dX3_wetCells_9 : decode cX3_wetCells 9 = .ok (.istore_n 3, 1) := by decide +kernel
theorem dX3_wetCells_10 : decode cX3_wetCells 10 = .ok (.iconst 0, 1) := by decide +kernel
theorem dX3_wetCells_11 : decode cX3_wetCells 11 = .ok (.istore 4, 2) := by decide +kernel
theorem dX3_wetCells_13 : decode cX3_wetCells 13 = .ok (.iload 4, 2) := by decide +kernel
theorem dX3_wetCells_15 : decode cX3_wetCells 15 = .ok (.iload_n 3, 1) := by decide +kernel
theorem dX3_wetCells_16 : decode cX3_wetCells 16 = .ok (.if_icmp .ge 28, 3) := by decide +kernel
theorem dX3_wetCells_19 : decode cX3_wetCells 19 = .ok (.aload_n 2, 1) := by decide +kernel
theorem dX3_wetCells_20 : decode cX3_wetCells 20 = .ok (.iload 4, 2) := by decide +kernel
theorem dX3_wetCells_22 : decode cX3_wetCells 22 = .ok (.iaload, 1) := by decide +kernel
theorem dX3_wetCells_23 : decode cX3_wetCells 23 = .ok (.istore 5, 2) := by decide +kernel
theorem dX3_wetCells_25 : decode cX3_wetCells 25 = .ok (.iload_n 1, 1) := by decide +kernel
theorem dX3_wetCells_26 : decode cX3_wetCells 26 = .ok (.iload 5, 2) := by decide +kernel
theorem dX3_wetCells_28 : decode cX3_wetCells 28 = .ok (.ifCond .le 7, 3) := by decide +kernel
theorem dX3_wetCells_31 : decode cX3_wetCells 31 = .ok (.iconst 1, 1) := by decide +kernel
theorem dX3_wetCells_32 : decode cX3_wetCells 32 = .ok (.goto 4, 3) := by decide +kernel
theorem dX3_wetCells_35 : decode cX3_wetCells 35 = .ok (.iconst 0, 1) := by decide +kernel
theorem dX3_wetCells_36 : decode cX3_wetCells 36 = .ok (.iadd, 1) := by decide +kernel
theorem dX3_wetCells_37 : decode cX3_wetCells 37 = .ok (.istore_n 1, 1) := by decide +kernel
theorem dX3_wetCells_38 : decode cX3_wetCells 38 = .ok (.iinc 4 1, 3) := by decide +kernel
theorem dX3_wetCells_41 : decode cX3_wetCells 41 = .ok (.goto (-28), 3) := by decide +kernel
theorem dX3_wetCells_44 : decode cX3_wetCells 44 = .ok (.iload_n 1, 1) := by decide +kernel
theorem dX3_wetCells_45 : decode cX3_wetCells 45 = .ok (.ireturn, 1) := by decide +kernel
theorem dX3_greatestWetness_0 : decode cX3_greatestWetness 0 = .ok (.iconst 0, 1) := by decide +kernel
theorem dX3_greatestWetness_1 : decode cX3_greatestWetness 1 = .ok (.istore_n 1, 1) := by decide +kernel
theorem dX3_greatestWetness_2 : decode cX3_greatestWetness 2 = .ok (.aload_n 0, 1) := by decide +kernel
theorem dX3_greatestWetness_3 : decode cX3_greatestWetness 3 = .ok (.getfield 33, 3) := by decide +kernel
theorem dX3_greatestWetness_6 : decode cX3_greatestWetness 6 = .ok (.astore_n 2, 1) := by decide +kernel
theorem dX3_greatestWetness_7 : decode cX3_greatestWetness 7 = .ok (.aload_n 2, 1) := by decide +kernel
theorem dX3_greatestWetness_8 : decode cX3_greatestWetness 8 = .ok (.arraylength, 1) := by decide +kernel
theorem dX3_greatestWetness_9 : decode cX3_greatestWetness 9 = .ok (.istore_n 3, 1) := by decide +kernel
theorem dX3_greatestWetness_10 : decode cX3_greatestWetness 10 = .ok (.iconst 0, 1) := by decide +kernel
theorem dX3_greatestWetness_11 : decode cX3_greatestWetness 11 = .ok (.istore 4, 2) := by decide +kernel
theorem dX3_greatestWetness_13 : decode cX3_greatestWetness 13 = .ok (.iload 4, 2) := by decide +kernel
theorem dX3_greatestWetness_15 : decode cX3_greatestWetness 15 = .ok (.iload_n 3, 1) := by decide +kernel
theorem dX3_greatestWetness_16 : decode cX3_greatestWetness 16 = .ok (.if_icmp .ge 22, 3) := by decide +kernel
theorem dX3_greatestWetness_19 : decode cX3_greatestWetness 19 = .ok (.aload_n 2, 1) := by decide +kernel
theorem dX3_greatestWetness_20 : decode cX3_greatestWetness 20 = .ok (.iload 4, 2) := by decide +kernel
theorem dX3_greatestWetness_22 : decode cX3_greatestWetness 22 = .ok (.iaload, 1) := by decide +kernel
theorem dX3_greatestWetness_23 : decode cX3_greatestWetness 23 = .ok (.istore 5, 2) := by decide +kernel
theorem dX3_greatestWetness_25 : decode cX3_greatestWetness 25 = .ok (.iload_n 1, 1) := by decide +kernel
theorem dX3_greatestWetness_26 : decode cX3_greatestWetness 26 = .ok (.iload 5, 2) := by decide +kernel
theorem dX3_greatestWetness_28 : decode cX3_greatestWetness 28 = .ok (.invokestatic 94, 3) := by decide +kernel
theorem dX3_greatestWetness_31 : decode cX3_greatestWetness 31 = .ok (.istore_n 1, 1) := by decide +kernel
theorem dX3_greatestWetness_32 : decode cX3_greatestWetness 32 = .ok (.iinc 4 1, 3) := by decide +kernel
theorem dX3_greatestWetness_35 : decode cX3_greatestWetness 35 = .ok (.goto (-22), 3) := by decide +kernel
theorem dX3_greatestWetness_38 : decode cX3_greatestWetness 38 = .ok (.iload_n 1, 1) := by decide +kernel
theorem dX3_greatestWetness_39 : decode cX3_greatestWetness 39 = .ok (.ireturn, 1) := by decide +kernel
theorem dX3_unlikePairs_0 : decode cX3_unlikePairs 0 = .ok (.iconst 0, 1) := by decide +kernel
theorem dX3_unlikePairs_1 : decode cX3_unlikePairs 1 = .ok (.istore_n 1, 1) := by decide +kernel
theorem dX3_unlikePairs_2 : decode cX3_unlikePairs 2 = .ok (.iconst 0, 1) := by decide +kernel
theorem dX3_unlikePairs_3 : decode cX3_unlikePairs 3 = .ok (.istore_n 2, 1) := by decide +kernel
theorem dX3_unlikePairs_4 : decode cX3_unlikePairs 4 = .ok (.iload_n 2, 1) := by decide +kernel
theorem dX3_unlikePairs_5 : decode cX3_unlikePairs 5 = .ok (.aload_n 0, 1) := by decide +kernel
theorem dX3_unlikePairs_6 : decode cX3_unlikePairs 6 = .ok (.getfield 47, 3) := by decide +kernel
theorem dX3_unlikePairs_9 : decode cX3_unlikePairs 9 = .ok (.if_icmp .ge 66, 3) := by decide +kernel
theorem dX3_unlikePairs_12 : decode cX3_unlikePairs 12 = .ok (.aload_n 0, 1) := by decide +kernel
theorem dX3_unlikePairs_13 : decode cX3_unlikePairs 13 = .ok (.iload_n 2, 1) := by decide +kernel
theorem dX3_unlikePairs_14 : decode cX3_unlikePairs 14 = .ok (.invokevirtual 78, 3) := by decide +kernel
theorem dX3_unlikePairs_17 : decode cX3_unlikePairs 17 = .ok (.istore_n 3, 1) := by decide +kernel
theorem dX3_unlikePairs_18 : decode cX3_unlikePairs 18 = .ok (.iload_n 3, 1) := by decide +kernel
theorem dX3_unlikePairs_19 : decode cX3_unlikePairs 19 = .ok (.aload_n 0, 1) := by decide +kernel
theorem dX3_unlikePairs_20 : decode cX3_unlikePairs 20 = .ok (.invokevirtual 74, 3) := by decide +kernel
theorem dX3_unlikePairs_23 : decode cX3_unlikePairs 23 = .ok (.if_icmp .ge 46, 3) := by decide +kernel
theorem dX3_unlikePairs_26 : decode cX3_unlikePairs 26 = .ok (.iload_n 1, 1) := by decide +kernel
theorem dX3_unlikePairs_27 : decode cX3_unlikePairs 27 = .ok (.aload_n 0, 1) := by decide +kernel
theorem dX3_unlikePairs_28 : decode cX3_unlikePairs 28 = .ok (.getfield 30, 3) := by decide +kernel
theorem dX3_unlikePairs_31 : decode cX3_unlikePairs 31 = .ok (.aload_n 0, 1) := by decide +kernel
theorem dX3_unlikePairs_32 : decode cX3_unlikePairs 32 = .ok (.iload_n 3, 1) := by decide +kernel
theorem dX3_unlikePairs_33 : decode cX3_unlikePairs 33 = .ok (.iload_n 2, 1) := by decide +kernel
theorem dX3_unlikePairs_34 : decode cX3_unlikePairs 34 = .ok (.invokevirtual 99, 3) := by decide +kernel
theorem dX3_unlikePairs_37 : decode cX3_unlikePairs 37 = .ok (.iaload, 1) := by decide +kernel
theorem dX3_unlikePairs_38 : decode cX3_unlikePairs 38 = .ok (.aload_n 0, 1) := by decide +kernel
theorem dX3_unlikePairs_39 : decode cX3_unlikePairs 39 = .ok (.getfield 30, 3) := by decide +kernel
theorem dX3_unlikePairs_42 : decode cX3_unlikePairs 42 = .ok (.aload_n 0, 1) := by decide +kernel
theorem dX3_unlikePairs_43 : decode cX3_unlikePairs 43 = .ok (.aload_n 0, 1) := by decide +kernel
theorem dX3_unlikePairs_44 : decode cX3_unlikePairs 44 = .ok (.iload_n 3, 1) := by decide +kernel
theorem dX3_unlikePairs_45 : decode cX3_unlikePairs 45 = .ok (.invokevirtual 102, 3) := by decide +kernel
theorem dX3_unlikePairs_48 : decode cX3_unlikePairs 48 = .ok (.iload_n 2, 1) := by decide +kernel
theorem dX3_unlikePairs_49 : decode cX3_unlikePairs 49 = .ok (.invokevirtual 99, 3) := by decide +kernel
theorem dX3_unlikePairs_52 : decode cX3_unlikePairs 52 = .ok (.iaload, 1) := by decide +kernel
theorem dX3_unlikePairs_53 : decode cX3_unlikePairs 53 = .ok (.if_icmp .eq 7, 3) := by decide +kernel
theorem dX3_unlikePairs_56 : decode cX3_unlikePairs 56 = .ok (.iconst 1, 1) := by decide +kernel
theorem dX3_unlikePairs_57 : decode cX3_unlikePairs 57 = .ok (.goto 4, 3) := by decide +kernel
theorem dX3_unlikePairs_60 : decode cX3_unlikePairs 60 = .ok (.iconst 0, 1) := by decide +kernel
theorem dX3_unlikePairs_61 : decode cX3_unlikePairs 61 = .ok (.iadd, 1) := by decide +kernel
theorem dX3_unlikePairs_62 : decode cX3_unlikePairs 62 = .ok (.istore_n 1, 1) := by decide +kernel
theorem dX3_unlikePairs_63 : decode cX3_unlikePairs 63 = .ok (.iinc 3 1, 3) := by decide +kernel
theorem dX3_unlikePairs_66 : decode cX3_unlikePairs 66 = .ok (.goto (-48), 3) := by decide +kernel
theorem dX3_unlikePairs_69 : decode cX3_unlikePairs 69 = .ok (.iinc 2 1, 3) := by decide +kernel
theorem dX3_unlikePairs_72 : decode cX3_unlikePairs 72 = .ok (.goto (-68), 3) := by decide +kernel
theorem dX3_unlikePairs_75 : decode cX3_unlikePairs 75 = .ok (.iload_n 1, 1) := by decide +kernel
theorem dX3_unlikePairs_76 : decode cX3_unlikePairs 76 = .ok (.ireturn, 1) := by decide +kernel
theorem dX3_weightAt_0 : decode cX3_weightAt 0 = .ok (.aload_n 0, 1) := by decide +kernel
theorem dX3_weightAt_1 : decode cX3_weightAt 1 = .ok (.getfield 53, 3) := by decide +kernel
theorem dX3_weightAt_4 : decode cX3_weightAt 4 = .ok (.aload_n 0, 1) := by decide +kernel
theorem dX3_weightAt_5 : decode cX3_weightAt 5 = .ok (.getfield 15, 3) := by decide +kernel
theorem dX3_weightAt_8 : decode cX3_weightAt 8 = .ok (.aload_n 0, 1) := by decide +kernel
theorem dX3_weightAt_9 : decode cX3_weightAt 9 = .ok (.getfield 30, 3) := by decide +kernel
theorem dX3_weightAt_12 : decode cX3_weightAt 12 = .ok (.iload_n 1, 1) := by decide +kernel
theorem dX3_weightAt_13 : decode cX3_weightAt 13 = .ok (.iaload, 1) := by decide +kernel
theorem dX3_weightAt_14 : decode cX3_weightAt 14 = .ok (.iaload, 1) := by decide +kernel
theorem dX3_weightAt_15 : decode cX3_weightAt 15 = .ok (.iadd, 1) := by decide +kernel
theorem dX3_weightAt_16 : decode cX3_weightAt 16 = .ok (.aload_n 0, 1) := by decide +kernel
theorem dX3_weightAt_17 : decode cX3_weightAt 17 = .ok (.getfield 36, 3) := by decide +kernel
theorem dX3_weightAt_20 : decode cX3_weightAt 20 = .ok (.iload_n 1, 1) := by decide +kernel
theorem dX3_weightAt_21 : decode cX3_weightAt 21 = .ok (.iaload, 1) := by decide +kernel
theorem dX3_weightAt_22 : decode cX3_weightAt 22 = .ok (.aload_n 0, 1) := by decide +kernel
theorem dX3_weightAt_23 : decode cX3_weightAt 23 = .ok (.getfield 56, 3) := by decide +kernel
theorem dX3_weightAt_26 : decode cX3_weightAt 26 = .ok (.imul, 1) := by decide +kernel
theorem dX3_weightAt_27 : decode cX3_weightAt 27 = .ok (.iadd, 1) := by decide +kernel
theorem dX3_weightAt_28 : decode cX3_weightAt 28 = .ok (.ireturn, 1) := by decide +kernel
theorem dX3_weightOfSide_0 : decode cX3_weightOfSide 0 = .ok (.iconst 0, 1) := by decide +kernel
theorem dX3_weightOfSide_1 : decode cX3_weightOfSide 1 = .ok (.istore_n 2, 1) := by decide +kernel
theorem dX3_weightOfSide_2 : decode cX3_weightOfSide 2 = .ok (.iconst 0, 1) := by decide +kernel
theorem dX3_weightOfSide_3 : decode cX3_weightOfSide 3 = .ok (.istore_n 3, 1) := by decide +kernel
theorem dX3_weightOfSide_4 : decode cX3_weightOfSide 4 = .ok (.iload_n 3, 1) := by decide +kernel
theorem dX3_weightOfSide_5 : decode cX3_weightOfSide 5 = .ok (.aload_n 0, 1) := by decide +kernel
theorem dX3_weightOfSide_6 : decode cX3_weightOfSide 6 = .ok (.getfield 47, 3) := by decide +kernel
theorem dX3_weightOfSide_9 : decode cX3_weightOfSide 9 = .ok (.if_icmp .ge 60, 3) := by decide +kernel
theorem dX3_weightOfSide_12 : decode cX3_weightOfSide 12 = .ok (.aload_n 0, 1) := by decide +kernel
theorem dX3_weightOfSide_13 : decode cX3_weightOfSide 13 = .ok (.iload_n 3, 1) := by decide +kernel
theorem dX3_weightOfSide_14 : decode cX3_weightOfSide 14 = .ok (.invokevirtual 78, 3) := by decide +kernel
theorem dX3_weightOfSide_17 : decode cX3_weightOfSide 17 = .ok (.istore 4, 2) := by decide +kernel
theorem dX3_weightOfSide_19 : decode cX3_weightOfSide 19 = .ok (.iload 4, 2) := by decide +kernel
theorem dX3_weightOfSide_21 : decode cX3_weightOfSide 21 = .ok (.aload_n 0, 1) := by decide +kernel
theorem dX3_weightOfSide_22 : decode cX3_weightOfSide 22 = .ok (.iload_n 3, 1) := by decide +kernel
theorem dX3_weightOfSide_23 : decode cX3_weightOfSide 23 = .ok (.invokevirtual 82, 3) := by decide +kernel
theorem dX3_weightOfSide_26 : decode cX3_weightOfSide 26 = .ok (.if_icmp .gt 37, 3) := by decide +kernel
theorem dX3_weightOfSide_29 : decode cX3_weightOfSide 29 = .ok (.iload_n 2, 1) := by decide +kernel
theorem dX3_weightOfSide_30 : decode cX3_weightOfSide 30 = .ok (.aload_n 0, 1) := by decide +kernel
theorem dX3_weightOfSide_31 : decode cX3_weightOfSide 31 = .ok (.iload 4, 2) := by decide +kernel
theorem dX3_weightOfSide_33 : decode cX3_weightOfSide 33 = .ok (.invokevirtual 105, 3) := by decide +kernel
theorem dX3_weightOfSide_36 : decode cX3_weightOfSide 36 = .ok (.iload_n 1, 1) := by decide +kernel
theorem dX3_weightOfSide_37 : decode cX3_weightOfSide 37 = .ok (.if_icmp .ne 17, 3) := by decide +kernel
theorem dX3_weightOfSide_40 : decode cX3_weightOfSide 40 = .ok (.aload_n 0, 1) := by decide +kernel
theorem dX3_weightOfSide_41 : decode cX3_weightOfSide 41 = .ok (.aload_n 0, 1) := by decide +kernel
theorem dX3_weightOfSide_42 : decode cX3_weightOfSide 42 = .ok (.iload 4, 2) := by decide +kernel
theorem dX3_weightOfSide_44 : decode cX3_weightOfSide 44 = .ok (.iload_n 3, 1) := by decide +kernel
theorem dX3_weightOfSide_45 : decode cX3_weightOfSide 45 = .ok (.invokevirtual 99, 3) := by decide +kernel
theorem dX3_weightOfSide_48 : decode cX3_weightOfSide 48 = .ok (.invokevirtual 108, 3) := by decide +kernel
theorem dX3_weightOfSide_51 : decode cX3_weightOfSide 51 = .ok (.goto 4, 3) := by decide +kernel
theorem dX3_weightOfSide_54 : decode cX3_weightOfSide 54 = .ok (.iconst 0, 1) := by decide +kernel
theorem dX3_weightOfSide_55 : decode cX3_weightOfSide 55 = .ok (.iadd, 1) := by decide +kernel
theorem dX3_weightOfSide_56 : decode cX3_weightOfSide 56 = .ok (.istore_n 2, 1) := by decide +kernel
theorem dX3_weightOfSide_57 : decode cX3_weightOfSide 57 = .ok (.iinc 4 1, 3) := by decide +kernel
theorem dX3_weightOfSide_60 : decode cX3_weightOfSide 60 = .ok (.goto (-41), 3) := by decide +kernel
theorem dX3_weightOfSide_63 : decode cX3_weightOfSide 63 = .ok (.iinc 3 1, 3) := by decide +kernel
theorem dX3_weightOfSide_66 : decode cX3_weightOfSide 66 = .ok (.goto (-62), 3) := by decide +kernel
theorem dX3_weightOfSide_69 : decode cX3_weightOfSide 69 = .ok (.iload_n 2, 1) := by decide +kernel
theorem dX3_weightOfSide_70 : decode cX3_weightOfSide 70 = .ok (.ireturn, 1) := by decide +kernel
theorem dX3_leftWeight_0 : decode cX3_leftWeight 0 = .ok (.aload_n 0, 1) := by decide +kernel
theorem dX3_leftWeight_1 : decode cX3_leftWeight 1 = .ok (.iconst (-1), 1) := by decide +kernel
theorem dX3_leftWeight_2 : decode cX3_leftWeight 2 = .ok (.invokevirtual 111, 3) := by decide +kernel
theorem dX3_leftWeight_5 : decode cX3_leftWeight 5 = .ok (.ireturn, 1) := by decide +kernel
theorem dX3_rightWeight_0 : decode cX3_rightWeight 0 = .ok (.aload_n 0, 1) := by decide +kernel
theorem dX3_rightWeight_1 : decode cX3_rightWeight 1 = .ok (.iconst 1, 1) := by decide +kernel
theorem dX3_rightWeight_2 : decode cX3_rightWeight 2 = .ok (.invokevirtual 111, 3) := by decide +kernel
theorem dX3_rightWeight_5 : decode cX3_rightWeight 5 = .ok (.ireturn, 1) := by decide +kernel
theorem dX3_wholeWeight_0 : decode cX3_wholeWeight 0 = .ok (.aload_n 0, 1) := by decide +kernel
theorem dX3_wholeWeight_1 : decode cX3_wholeWeight 1 = .ok (.invokevirtual 114, 3) := by decide +kernel
theorem dX3_wholeWeight_4 : decode cX3_wholeWeight 4 = .ok (.aload_n 0, 1) := by decide +kernel
theorem dX3_wholeWeight_5 : decode cX3_wholeWeight 5 = .ok (.iconst 0, 1) := by decide +kernel
theorem dX3_wholeWeight_6 : decode cX3_wholeWeight 6 = .ok (.invokevirtual 111, 3) := by decide +kernel
theorem dX3_wholeWeight_9 : decode cX3_wholeWeight 9 = .ok (.iadd, 1) := by decide +kernel
theorem dX3_wholeWeight_10 : decode cX3_wholeWeight 10 = .ok (.aload_n 0, 1) := by decide +kernel
theorem dX3_wholeWeight_11 : decode cX3_wholeWeight 11 = .ok (.invokevirtual 117, 3) := by decide +kernel
theorem dX3_wholeWeight_14 : decode cX3_wholeWeight 14 = .ok (.iadd, 1) := by decide +kernel
theorem dX3_wholeWeight_15 : decode cX3_wholeWeight 15 = .ok (.ireturn, 1) := by decide +kernel
theorem dX3_balance_0 : decode cX3_balance 0 = .ok (.aload_n 0, 1) := by decide +kernel
theorem dX3_balance_1 : decode cX3_balance 1 = .ok (.invokevirtual 117, 3) := by decide +kernel
theorem dX3_balance_4 : decode cX3_balance 4 = .ok (.aload_n 0, 1) := by decide +kernel
theorem dX3_balance_5 : decode cX3_balance 5 = .ok (.invokevirtual 114, 3) := by decide +kernel
theorem dX3_balance_8 : decode cX3_balance 8 = .ok (.isub, 1) := by decide +kernel
theorem dX3_balance_9 : decode cX3_balance 9 = .ok (.ireturn, 1) := by decide +kernel
theorem dX3_patternColour_0 : decode cX3_patternColour 0 = .ok (.aload_n 0, 1) := by decide +kernel
theorem dX3_patternColour_1 : decode cX3_patternColour 1 = .ok (.getfield 27, 3) := by decide +kernel
theorem dX3_patternColour_4 : decode cX3_patternColour 4 = .ok (.iload_n 1, 1) := by decide +kernel
theorem dX3_patternColour_5 : decode cX3_patternColour 5 = .ok (.bipush 6, 2) := by decide +kernel
theorem dX3_patternColour_7 : decode cX3_patternColour 7 = .ok (.imul, 1) := by decide +kernel
theorem dX3_patternColour_8 : decode cX3_patternColour 8 = .ok (.iload_n 2, 1) := by decide +kernel
theorem dX3_patternColour_9 : decode cX3_patternColour 9 = .ok (.iadd, 1) := by decide +kernel
theorem dX3_patternColour_10 : decode cX3_patternColour 10 = .ok (.bipush 7, 2) := by decide +kernel
theorem dX3_patternColour_12 : decode cX3_patternColour 12 = .ok (.imul, 1) := by decide +kernel
theorem dX3_patternColour_13 : decode cX3_patternColour 13 = .ok (.iload_n 3, 1) := by decide +kernel
theorem dX3_patternColour_14 : decode cX3_patternColour 14 = .ok (.iadd, 1) := by decide +kernel
theorem dX3_patternColour_15 : decode cX3_patternColour 15 = .ok (.iaload, 1) := by decide +kernel
theorem dX3_patternColour_16 : decode cX3_patternColour 16 = .ok (.ireturn, 1) := by decide +kernel
theorem dX3_setPatternColour_0 : decode cX3_setPatternColour 0 = .ok (.aload_n 0, 1) := by decide +kernel
theorem dX3_setPatternColour_1 : decode cX3_setPatternColour 1 = .ok (.getfield 27, 3) := by decide +kernel
theorem dX3_setPatternColour_4 : decode cX3_setPatternColour 4 = .ok (.iload_n 1, 1) := by decide +kernel
theorem dX3_setPatternColour_5 : decode cX3_setPatternColour 5 = .ok (.bipush 6, 2) := by decide +kernel
theorem dX3_setPatternColour_7 : decode cX3_setPatternColour 7 = .ok (.imul, 1) := by decide +kernel
theorem dX3_setPatternColour_8 : decode cX3_setPatternColour 8 = .ok (.iload_n 2, 1) := by decide +kernel
theorem dX3_setPatternColour_9 : decode cX3_setPatternColour 9 = .ok (.iadd, 1) := by decide +kernel
theorem dX3_setPatternColour_10 : decode cX3_setPatternColour 10 = .ok (.bipush 7, 2) := by decide +kernel
theorem dX3_setPatternColour_12 : decode cX3_setPatternColour 12 = .ok (.imul, 1) := by decide +kernel
theorem dX3_setPatternColour_13 : decode cX3_setPatternColour 13 = .ok (.iload_n 3, 1) := by decide +kernel
theorem dX3_setPatternColour_14 : decode cX3_setPatternColour 14 = .ok (.iadd, 1) := by decide +kernel
theorem dX3_setPatternColour_15 : decode cX3_setPatternColour 15 = .ok (.iload 4, 2) := by decide +kernel
theorem dX3_setPatternColour_17 : decode cX3_setPatternColour 17 = .ok (.iastore, 1) := by decide +kernel
theorem dX3_setPatternColour_18 : decode cX3_setPatternColour 18 = .ok (.return_, 1) := by decide +kernel
theorem dX3_paintingDigits_0 : decode cX3_paintingDigits 0 = .ok (.iconst 0, 1) := by decide +kernel
theorem dX3_paintingDigits_1 : decode cX3_paintingDigits 1 = .ok (.istore_n 2, 1) := by decide +kernel
theorem dX3_paintingDigits_2 : decode cX3_paintingDigits 2 = .ok (.iconst 0, 1) := by decide +kernel
theorem dX3_paintingDigits_3 : decode cX3_paintingDigits 3 = .ok (.istore_n 3, 1) := by decide +kernel
theorem dX3_paintingDigits_4 : decode cX3_paintingDigits 4 = .ok (.iload_n 3, 1) := by decide +kernel
theorem dX3_paintingDigits_5 : decode cX3_paintingDigits 5 = .ok (.aload_n 0, 1) := by decide +kernel
theorem dX3_paintingDigits_6 : decode cX3_paintingDigits 6 = .ok (.getfield 21, 3) := by decide +kernel
theorem dX3_paintingDigits_9 : decode cX3_paintingDigits 9 = .ok (.iload_n 1, 1) := by decide +kernel
theorem dX3_paintingDigits_10 : decode cX3_paintingDigits 10 = .ok (.iaload, 1) := by decide +kernel
theorem dX3_paintingDigits_11 : decode cX3_paintingDigits 11 = .ok (.if_icmp .ge 48, 3) := by decide +kernel
theorem dX3_paintingDigits_14 : decode cX3_paintingDigits 14 = .ok (.iconst 0, 1) := by decide +kernel
theorem dX3_paintingDigits_15 : decode cX3_paintingDigits 15 = .ok (.istore 4, 2) := by decide +kernel
theorem dX3_paintingDigits_17 : decode cX3_paintingDigits 17 = .ok (.iload 4, 2) := by decide +kernel
theorem dX3_paintingDigits_19 : decode cX3_paintingDigits 19 = .ok (.aload_n 0, 1) := by decide +kernel
theorem dX3_paintingDigits_20 : decode cX3_paintingDigits 20 = .ok (.getfield 24, 3) := by decide +kernel
theorem dX3_paintingDigits_23 : decode cX3_paintingDigits 23 = .ok (.iload_n 1, 1) := by decide +kernel
theorem dX3_paintingDigits_24 : decode cX3_paintingDigits 24 = .ok (.iaload, 1) := by decide +kernel
theorem dX3_paintingDigits_25 : decode cX3_paintingDigits 25 = .ok (.if_icmp .ge 28, 3) := by decide +kernel
theorem dX3_paintingDigits_28 : decode cX3_paintingDigits 28 = .ok (.iload_n 2, 1) := by decide +kernel
theorem dX3_paintingDigits_29 : decode cX3_paintingDigits 29 = .ok (.aload_n 0, 1) := by decide +kernel
theorem dX3_paintingDigits_30 : decode cX3_paintingDigits 30 = .ok (.iload_n 1, 1) := by decide +kernel
theorem dX3_paintingDigits_31 : decode cX3_paintingDigits 31 = .ok (.iload_n 3, 1) := by decide +kernel
theorem dX3_paintingDigits_32 : decode cX3_paintingDigits 32 = .ok (.iload 4, 2) := by decide +kernel
theorem dX3_paintingDigits_34 : decode cX3_paintingDigits 34 = .ok (.invokevirtual 120, 3) := by decide +kernel
theorem dX3_paintingDigits_37 : decode cX3_paintingDigits 37 = .ok (.ifCond .eq 7, 3) := by decide +kernel
theorem dX3_paintingDigits_40 : decode cX3_paintingDigits 40 = .ok (.iconst 1, 1) := by decide +kernel
theorem dX3_paintingDigits_41 : decode cX3_paintingDigits 41 = .ok (.goto 4, 3) := by decide +kernel
theorem dX3_paintingDigits_44 : decode cX3_paintingDigits 44 = .ok (.iconst 0, 1) := by decide +kernel
theorem dX3_paintingDigits_45 : decode cX3_paintingDigits 45 = .ok (.iadd, 1) := by decide +kernel
theorem dX3_paintingDigits_46 : decode cX3_paintingDigits 46 = .ok (.istore_n 2, 1) := by decide +kernel
theorem dX3_paintingDigits_47 : decode cX3_paintingDigits 47 = .ok (.iinc 4 1, 3) := by decide +kernel
theorem dX3_paintingDigits_50 : decode cX3_paintingDigits 50 = .ok (.goto (-33), 3) := by decide +kernel
theorem dX3_paintingDigits_53 : decode cX3_paintingDigits 53 = .ok (.iinc 3 1, 3) := by decide +kernel
theorem dX3_paintingDigits_56 : decode cX3_paintingDigits 56 = .ok (.goto (-52), 3) := by decide +kernel
theorem dX3_paintingDigits_59 : decode cX3_paintingDigits 59 = .ok (.iload_n 2, 1) := by decide +kernel
theorem dX3_paintingDigits_60 : decode cX3_paintingDigits 60 = .ok (.ireturn, 1) := by decide +kernel
theorem dX3_putColour_0 : decode cX3_putColour 0 = .ok (.aload_n 0, 1) := by decide +kernel
theorem dX3_putColour_1 : decode cX3_putColour 1 = .ok (.iload_n 1, 1) := by decide +kernel
theorem dX3_putColour_2 : decode cX3_putColour 2 = .ok (.iload_n 2, 1) := by decide +kernel
theorem dX3_putColour_3 : decode cX3_putColour 3 = .ok (.invokevirtual 124, 3) := by decide +kernel
theorem dX3_putColour_6 : decode cX3_putColour 6 = .ok (.ifCond .ne 4, 3) := by decide +kernel
theorem dX3_putColour_9 : decode cX3_putColour 9 = .ok (.return_, 1) := by decide +kernel
theorem dX3_putColour_10 : decode cX3_putColour 10 = .ok (.aload_n 0, 1) := by decide +kernel
theorem dX3_putColour_11 : decode cX3_putColour 11 = .ok (.aload_n 0, 1) := by decide +kernel
theorem dX3_putColour_12 : decode cX3_putColour 12 = .ok (.iload_n 1, 1) := by decide +kernel
theorem dX3_putColour_13 : decode cX3_putColour 13 = .ok (.iload_n 2, 1) := by decide +kernel
theorem dX3_putColour_14 : decode cX3_putColour 14 = .ok (.invokevirtual 99, 3) := by decide +kernel
theorem dX3_putColour_17 : decode cX3_putColour 17 = .ok (.iload_n 3, 1) := by decide +kernel
theorem dX3_putColour_18 : decode cX3_putColour 18 = .ok (.iload 4, 2) := by decide +kernel
theorem dX3_putColour_20 : decode cX3_putColour 20 = .ok (.invokevirtual 128, 3) := by decide +kernel
theorem dX3_putColour_23 : decode cX3_putColour 23 = .ok (.iload 5, 2) := by decide +kernel
theorem dX3_putColour_25 : decode cX3_putColour 25 = .ok (.ifCond .eq 20, 3) := by decide +kernel
theorem dX3_putColour_28 : decode cX3_putColour 28 = .ok (.aload_n 0, 1) := by decide +kernel
theorem dX3_putColour_29 : decode cX3_putColour 29 = .ok (.aload_n 0, 1) := by decide +kernel
theorem dX3_putColour_30 : decode cX3_putColour 30 = .ok (.aload_n 0, 1) := by decide +kernel
theorem dX3_putColour_31 : decode cX3_putColour 31 = .ok (.iload_n 1, 1) := by decide +kernel
theorem dX3_putColour_32 : decode cX3_putColour 32 = .ok (.invokevirtual 102, 3) := by decide +kernel
theorem dX3_putColour_35 : decode cX3_putColour 35 = .ok (.iload_n 2, 1) := by decide +kernel
theorem dX3_putColour_36 : decode cX3_putColour 36 = .ok (.invokevirtual 99, 3) := by decide +kernel
theorem dX3_putColour_39 : decode cX3_putColour 39 = .ok (.iload_n 3, 1) := by decide +kernel
theorem dX3_putColour_40 : decode cX3_putColour 40 = .ok (.iload 4, 2) := by decide +kernel
theorem dX3_putColour_42 : decode cX3_putColour 42 = .ok (.invokevirtual 128, 3) := by decide +kernel
theorem dX3_putColour_45 : decode cX3_putColour 45 = .ok (.return_, 1) := by decide +kernel
theorem dX3_setCell_0 : decode cX3_setCell 0 = .ok (.aload_n 0, 1) := by decide +kernel
theorem dX3_setCell_1 : decode cX3_setCell 1 = .ok (.getfield 30, 3) := by decide +kernel
theorem dX3_setCell_4 : decode cX3_setCell 4 = .ok (.iload_n 1, 1) := by decide +kernel
theorem dX3_setCell_5 : decode cX3_setCell 5 = .ok (.iload_n 2, 1) := by decide +kernel
theorem dX3_setCell_6 : decode cX3_setCell 6 = .ok (.iastore, 1) := by decide +kernel
theorem dX3_setCell_7 : decode cX3_setCell 7 = .ok (.aload_n 0, 1) := by decide +kernel
theorem dX3_setCell_8 : decode cX3_setCell 8 = .ok (.getfield 33, 3) := by decide +kernel
theorem dX3_setCell_11 : decode cX3_setCell 11 = .ok (.iload_n 1, 1) := by decide +kernel
theorem dX3_setCell_12 : decode cX3_setCell 12 = .ok (.iload_n 3, 1) := by decide +kernel
theorem dX3_setCell_13 : decode cX3_setCell 13 = .ok (.iastore, 1) := by decide +kernel
theorem dX3_setCell_14 : decode cX3_setCell 14 = .ok (.return_, 1) := by decide +kernel
theorem dX3_sourceOf_0 : decode cX3_sourceOf 0 = .ok (.aload_n 0, 1) := by decide +kernel
theorem dX3_sourceOf_1 : decode cX3_sourceOf 1 = .ok (.iload_n 1, 1) := by decide +kernel
theorem dX3_sourceOf_2 : decode cX3_sourceOf 2 = .ok (.iload_n 2, 1) := by decide +kernel
theorem dX3_sourceOf_3 : decode cX3_sourceOf 3 = .ok (.invokevirtual 99, 3) := by decide +kernel
theorem dX3_sourceOf_6 : decode cX3_sourceOf 6 = .ok (.istore_n 3, 1) := by decide +kernel
theorem dX3_sourceOf_7 : decode cX3_sourceOf 7 = .ok (.aload_n 0, 1) := by decide +kernel
theorem dX3_sourceOf_8 : decode cX3_sourceOf 8 = .ok (.getfield 36, 3) := by decide +kernel
theorem dX3_sourceOf_11 : decode cX3_sourceOf 11 = .ok (.iload_n 3, 1) := by decide +kernel
theorem dX3_sourceOf_12 : decode cX3_sourceOf 12 = .ok (.iaload, 1) := by decide +kernel
theorem dX3_sourceOf_13 : decode cX3_sourceOf 13 = .ok (.iconst 1, 1) := by decide +kernel
theorem dX3_sourceOf_14 : decode cX3_sourceOf 14 = .ok (.if_icmp .ne 6, 3) := by decide +kernel
theorem dX3_sourceOf_17 : decode cX3_sourceOf 17 = .ok (.bipush (-2), 2) := by decide +kernel
theorem dX3_sourceOf_19 : decode cX3_sourceOf 19 = .ok (.ireturn, 1) := by decide +kernel
theorem dX3_sourceOf_20 : decode cX3_sourceOf 20 = .ok (.aload_n 0, 1) := by decide +kernel
theorem dX3_sourceOf_21 : decode cX3_sourceOf 21 = .ok (.getfield 33, 3) := by decide +kernel
theorem dX3_sourceOf_24 : decode cX3_sourceOf 24 = .ok (.iload_n 3, 1) := by decide +kernel
theorem dX3_sourceOf_25 : decode cX3_sourceOf 25 = .ok (.iaload, 1) := by decide +kernel
theorem dX3_sourceOf_26 : decode cX3_sourceOf 26 = .ok (.ifCond .ne 15, 3) := by decide +kernel
theorem dX3_sourceOf_29 : decode cX3_sourceOf 29 = .ok (.aload_n 0, 1) := by decide +kernel
theorem dX3_sourceOf_30 : decode cX3_sourceOf 30 = .ok (.getfield 30, 3) := by decide +kernel
theorem dX3_sourceOf_33 : decode cX3_sourceOf 33 = .ok (.iload_n 3, 1) := by decide +kernel
theorem dX3_sourceOf_34 : decode cX3_sourceOf 34 = .ok (.iaload, 1) := by decide +kernel
theorem dX3_sourceOf_35 : decode cX3_sourceOf 35 = .ok (.ifCond .eq 6, 3) := by decide +kernel
theorem dX3_sourceOf_38 : decode cX3_sourceOf 38 = .ok (.bipush (-3), 2) := by decide +kernel
theorem dX3_sourceOf_40 : decode cX3_sourceOf 40 = .ok (.ireturn, 1) := by decide +kernel
theorem dX3_sourceOf_41 : decode cX3_sourceOf 41 = .ok (.iconst (-1), 1) := by decide +kernel
theorem dX3_sourceOf_42 : decode cX3_sourceOf 42 = .ok (.istore 4, 2) := by decide +kernel
theorem dX3_sourceOf_44 : decode cX3_sourceOf 44 = .ok (.iconst 0, 1) := by decide +kernel
theorem dX3_sourceOf_45 : decode cX3_sourceOf 45 = .ok (.istore 5, 2) := by decide +kernel
theorem dX3_sourceOf_47 : decode cX3_sourceOf 47 = .ok (.iload 5, 2) := by decide +kernel
theorem dX3_sourceOf_49 : decode cX3_sourceOf 49 = .ok (.getstatic 132, 3) := by decide +kernel
theorem dX3_sourceOf_52 : decode cX3_sourceOf 52 = .ok (.arraylength, 1) := by decide +kernel
theorem dX3_sourceOf_53 : decode cX3_sourceOf 53 = .ok (.if_icmp .ge 113, 3) := by decide +kernel
theorem dX3_sourceOf_56 : decode cX3_sourceOf 56 = .ok (.iload_n 1, 1) := by decide +kernel
theorem dX3_sourceOf_57 : decode cX3_sourceOf 57 = .ok (.getstatic 132, 3) := by decide +kernel
theorem dX3_sourceOf_60 : decode cX3_sourceOf 60 = .ok (.iload 5, 2) := by decide +kernel
theorem dX3_sourceOf_62 : decode cX3_sourceOf 62 = .ok (.iaload, 1) := by decide +kernel
theorem dX3_sourceOf_63 : decode cX3_sourceOf 63 = .ok (.iadd, 1) := by decide +kernel
theorem dX3_sourceOf_64 : decode cX3_sourceOf 64 = .ok (.istore 6, 2) := by decide +kernel
theorem dX3_sourceOf_66 : decode cX3_sourceOf 66 = .ok (.iload_n 2, 1) := by decide +kernel
theorem dX3_sourceOf_67 : decode cX3_sourceOf 67 = .ok (.getstatic 135, 3) := by decide +kernel
theorem dX3_sourceOf_70 : decode cX3_sourceOf 70 = .ok (.iload 5, 2) := by decide +kernel
theorem dX3_sourceOf_72 : decode cX3_sourceOf 72 = .ok (.iaload, 1) := by decide +kernel
theorem dX3_sourceOf_73 : decode cX3_sourceOf 73 = .ok (.iadd, 1) := by decide +kernel
theorem dX3_sourceOf_74 : decode cX3_sourceOf 74 = .ok (.istore 7, 2) := by decide +kernel
theorem dX3_sourceOf_76 : decode cX3_sourceOf 76 = .ok (.aload_n 0, 1) := by decide +kernel
theorem dX3_sourceOf_77 : decode cX3_sourceOf 77 = .ok (.iload 6, 2) := by decide +kernel
theorem dX3_sourceOf_79 : decode cX3_sourceOf 79 = .ok (.iload 7, 2) := by decide +kernel
theorem dX3_sourceOf_81 : decode cX3_sourceOf 81 = .ok (.invokevirtual 124, 3) := by decide +kernel
theorem dX3_sourceOf_84 : decode cX3_sourceOf 84 = .ok (.ifCond .ne 6, 3) := by decide +kernel
theorem dX3_sourceOf_87 : decode cX3_sourceOf 87 = .ok (.goto 73, 3) := by decide +kernel
theorem dX3_sourceOf_90 : decode cX3_sourceOf 90 = .ok (.aload_n 0, 1) := by decide +kernel
theorem dX3_sourceOf_91 : decode cX3_sourceOf 91 = .ok (.iload 6, 2) := by decide +kernel
theorem dX3_sourceOf_93 : decode cX3_sourceOf 93 = .ok (.iload 7, 2) := by decide +kernel
theorem dX3_sourceOf_95 : decode cX3_sourceOf 95 = .ok (.invokevirtual 99, 3) := by decide +kernel
theorem dX3_sourceOf_98 : decode cX3_sourceOf 98 = .ok (.istore 8, 2) := by decide +kernel
theorem dX3_sourceOf_100 : decode cX3_sourceOf 100 = .ok (.aload_n 0, 1) := by decide +kernel
theorem dX3_sourceOf_101 : decode cX3_sourceOf 101 = .ok (.getfield 36, 3) := by decide +kernel
theorem dX3_sourceOf_104 : decode cX3_sourceOf 104 = .ok (.iload 8, 2) := by decide +kernel
theorem dX3_sourceOf_106 : decode cX3_sourceOf 106 = .ok (.iaload, 1) := by decide +kernel
theorem dX3_sourceOf_107 : decode cX3_sourceOf 107 = .ok (.ifCond .ne 25, 3) := by decide +kernel
theorem dX3_sourceOf_110 : decode cX3_sourceOf 110 = .ok (.aload_n 0, 1) := by decide +kernel
theorem dX3_sourceOf_111 : decode cX3_sourceOf 111 = .ok (.getfield 33, 3) := by decide +kernel
theorem dX3_sourceOf_114 : decode cX3_sourceOf 114 = .ok (.iload 8, 2) := by decide +kernel
theorem dX3_sourceOf_116 : decode cX3_sourceOf 116 = .ok (.iaload, 1) := by decide +kernel
theorem dX3_sourceOf_117 : decode cX3_sourceOf 117 = .ok (.aload_n 0, 1) := by decide +kernel
theorem dX3_sourceOf_118 : decode cX3_sourceOf 118 = .ok (.getfield 33, 3) := by decide +kernel
theorem dX3_sourceOf_121 : decode cX3_sourceOf 121 = .ok (.iload_n 3, 1) := by decide +kernel
theorem dX3_sourceOf_122 : decode cX3_sourceOf 122 = .ok (.iaload, 1) := by decide +kernel
theorem dX3_sourceOf_123 : decode cX3_sourceOf 123 = .ok (.iconst 2, 1) := by decide +kernel
theorem dX3_sourceOf_124 : decode cX3_sourceOf 124 = .ok (.iadd, 1) := by decide +kernel
theorem dX3_sourceOf_125 : decode cX3_sourceOf 125 = .ok (.if_icmp .lt 7, 3) := by decide +kernel
theorem dX3_sourceOf_128 : decode cX3_sourceOf 128 = .ok (.iconst 1, 1) := by decide +kernel
theorem dX3_sourceOf_129 : decode cX3_sourceOf 129 = .ok (.goto 4, 3) := by decide +kernel
theorem dX3_sourceOf_132 : decode cX3_sourceOf 132 = .ok (.iconst 0, 1) := by decide +kernel
theorem dX3_sourceOf_133 : decode cX3_sourceOf 133 = .ok (.istore 9, 2) := by decide +kernel
theorem dX3_sourceOf_135 : decode cX3_sourceOf 135 = .ok (.iload 9, 2) := by decide +kernel
theorem dX3_sourceOf_137 : decode cX3_sourceOf 137 = .ok (.ifCond .eq 23, 3) := by decide +kernel
theorem dX3_sourceOf_140 : decode cX3_sourceOf 140 = .ok (.iload 4, 2) := by decide +kernel
theorem dX3_sourceOf_142 : decode cX3_sourceOf 142 = .ok (.ifCond .lt 14, 3) := by decide +kernel
theorem dX3_sourceOf_145 : decode cX3_sourceOf 145 = .ok (.aload_n 0, 1) := by decide +kernel
theorem dX3_sourceOf_146 : decode cX3_sourceOf 146 = .ok (.iload 8, 2) := by decide +kernel
theorem dX3_sourceOf_148 : decode cX3_sourceOf 148 = .ok (.iload 4, 2) := by decide +kernel
theorem dX3_sourceOf_150 : decode cX3_sourceOf 150 = .ok (.invokevirtual 138, 3) := by decide +kernel
theorem dX3_sourceOf_153 : decode cX3_sourceOf 153 = .ok (.ifCond .eq 7, 3) := by decide +kernel
theorem dX3_sourceOf_156 : decode cX3_sourceOf 156 = .ok (.iload 8, 2) := by decide +kernel
theorem dX3_sourceOf_158 : decode cX3_sourceOf 158 = .ok (.istore 4, 2) := by decide +kernel
theorem dX3_sourceOf_160 : decode cX3_sourceOf 160 = .ok (.iinc 5 1, 3) := by decide +kernel
theorem dX3_sourceOf_163 : decode cX3_sourceOf 163 = .ok (.goto (-116), 3) := by decide +kernel
theorem dX3_sourceOf_166 : decode cX3_sourceOf 166 = .ok (.iload 4, 2) := by decide +kernel
theorem dX3_sourceOf_168 : decode cX3_sourceOf 168 = .ok (.ireturn, 1) := by decide +kernel
theorem dX3_isAhead_0 : decode cX3_isAhead 0 = .ok (.aload_n 0, 1) := by decide +kernel
theorem dX3_isAhead_1 : decode cX3_isAhead 1 = .ok (.getfield 33, 3) := by decide +kernel
theorem dX3_isAhead_4 : decode cX3_isAhead 4 = .ok (.iload_n 1, 1) := by decide +kernel
theorem dX3_isAhead_5 : decode cX3_isAhead 5 = .ok (.iaload, 1) := by decide +kernel
theorem dX3_isAhead_6 : decode cX3_isAhead 6 = .ok (.aload_n 0, 1) := by decide +kernel
theorem dX3_isAhead_7 : decode cX3_isAhead 7 = .ok (.getfield 33, 3) := by decide +kernel
theorem dX3_isAhead_10 : decode cX3_isAhead 10 = .ok (.iload_n 2, 1) := by decide +kernel
theorem dX3_isAhead_11 : decode cX3_isAhead 11 = .ok (.iaload, 1) := by decide +kernel
theorem dX3_isAhead_12 : decode cX3_isAhead 12 = .ok (.if_icmp .eq 24, 3) := by decide +kernel
theorem dX3_isAhead_15 : decode cX3_isAhead 15 = .ok (.aload_n 0, 1) := by decide +kernel
theorem dX3_isAhead_16 : decode cX3_isAhead 16 = .ok (.getfield 33, 3) := by decide +kernel
theorem dX3_isAhead_19 : decode cX3_isAhead 19 = .ok (.iload_n 1, 1) := by decide +kernel
theorem dX3_isAhead_20 : decode cX3_isAhead 20 = .ok (.iaload, 1) := by decide +kernel
theorem dX3_isAhead_21 : decode cX3_isAhead 21 = .ok (.aload_n 0, 1) := by decide +kernel
theorem dX3_isAhead_22 : decode cX3_isAhead 22 = .ok (.getfield 33, 3) := by decide +kernel
theorem dX3_isAhead_25 : decode cX3_isAhead 25 = .ok (.iload_n 2, 1) := by decide +kernel
theorem dX3_isAhead_26 : decode cX3_isAhead 26 = .ok (.iaload, 1) := by decide +kernel
theorem dX3_isAhead_27 : decode cX3_isAhead 27 = .ok (.if_icmp .le 7, 3) := by decide +kernel
theorem dX3_isAhead_30 : decode cX3_isAhead 30 = .ok (.iconst 1, 1) := by decide +kernel
theorem dX3_isAhead_31 : decode cX3_isAhead 31 = .ok (.goto 4, 3) := by decide +kernel
theorem dX3_isAhead_34 : decode cX3_isAhead 34 = .ok (.iconst 0, 1) := by decide +kernel
theorem dX3_isAhead_35 : decode cX3_isAhead 35 = .ok (.ireturn, 1) := by decide +kernel
theorem dX3_isAhead_36 : decode cX3_isAhead 36 = .ok (.aload_n 0, 1) := by decide +kernel
theorem dX3_isAhead_37 : decode cX3_isAhead 37 = .ok (.getfield 30, 3) := by decide +kernel
theorem dX3_isAhead_40 : decode cX3_isAhead 40 = .ok (.iload_n 1, 1) := by decide +kernel
theorem dX3_isAhead_41 : decode cX3_isAhead 41 = .ok (.iaload, 1) := by decide +kernel
theorem dX3_isAhead_42 : decode cX3_isAhead 42 = .ok (.aload_n 0, 1) := by decide +kernel
theorem dX3_isAhead_43 : decode cX3_isAhead 43 = .ok (.getfield 30, 3) := by decide +kernel
theorem dX3_isAhead_46 : decode cX3_isAhead 46 = .ok (.iload_n 2, 1) := by decide +kernel
theorem dX3_isAhead_47 : decode cX3_isAhead 47 = .ok (.iaload, 1) := by decide +kernel
theorem dX3_isAhead_48 : decode cX3_isAhead 48 = .ok (.if_icmp .le 7, 3) := by decide +kernel
theorem dX3_isAhead_51 : decode cX3_isAhead 51 = .ok (.iconst 1, 1) := by decide +kernel
theorem dX3_isAhead_52 : decode cX3_isAhead 52 = .ok (.goto 4, 3) := by decide +kernel
theorem dX3_isAhead_55 : decode cX3_isAhead 55 = .ok (.iconst 0, 1) := by decide +kernel
theorem dX3_isAhead_56 : decode cX3_isAhead 56 = .ok (.ireturn, 1) := by decide +kernel
theorem dX4_init_0 : decode cX4_init 0 = .ok (.aload_n 0, 1) := by decide +kernel
theorem dX4_init_1 : decode cX4_init 1 = .ok (.invokespecial 3, 3) := by decide +kernel
theorem dX4_init_4 : decode cX4_init 4 = .ok (.aload_n 0, 1) := by decide +kernel
theorem dX4_init_5 : decode cX4_init 5 = .ok (.sipush 600, 3) := by decide +kernel
theorem dX4_init_8 : decode cX4_init 8 = .ok (.newarray .byte, 2) := by decide +kernel
theorem dX4_init_10 : decode cX4_init 10 = .ok (.putfield 9, 3) := by decide +kernel
theorem dX4_init_13 : decode cX4_init 13 = .ok (.return_, 1) := by decide +kernel
theorem dX4_putFourBytes_0 : decode cX4_putFourBytes 0 = .ok (.bipush 24, 2) := by decide +kernel
theorem dX4_putFourBytes_2 : decode cX4_putFourBytes 2 = .ok (.istore_n 2, 1) := by decide +kernel
theorem dX4_putFourBytes_3 : decode cX4_putFourBytes 3 = .ok (.iload_n 2, 1) := by decide +kernel
theorem dX4_putFourBytes_4 : decode cX4_putFourBytes 4 = .ok (.ifCond .lt 42, 3) := by decide +kernel
theorem dX4_putFourBytes_7 : decode cX4_putFourBytes 7 = .ok (.aload_n 0, 1) := by decide +kernel
theorem dX4_putFourBytes_8 : decode cX4_putFourBytes 8 = .ok (.getfield 15, 3) := by decide +kernel
theorem dX4_putFourBytes_11 : decode cX4_putFourBytes 11 = .ok (.sipush 600, 3) := by decide +kernel
theorem dX4_putFourBytes_14 : decode cX4_putFourBytes 14 = .ok (.if_icmp .ge 32, 3) := by decide +kernel
theorem dX4_putFourBytes_17 : decode cX4_putFourBytes 17 = .ok (.aload_n 0, 1) := by decide +kernel
theorem dX4_putFourBytes_18 : decode cX4_putFourBytes 18 = .ok (.getfield 9, 3) := by decide +kernel
theorem dX4_putFourBytes_21 : decode cX4_putFourBytes 21 = .ok (.aload_n 0, 1) := by decide +kernel
theorem dX4_putFourBytes_22 : decode cX4_putFourBytes 22 = .ok (.getfield 15, 3) := by decide +kernel
theorem dX4_putFourBytes_25 : decode cX4_putFourBytes 25 = .ok (.iload_n 1, 1) := by decide +kernel
theorem dX4_putFourBytes_26 : decode cX4_putFourBytes 26 = .ok (.iload_n 2, 1) := by decide +kernel
theorem dX4_putFourBytes_27 : decode cX4_putFourBytes 27 = .ok (.ishr, 1) := by decide +kernel
theorem dX4_putFourBytes_28 : decode cX4_putFourBytes 28 = .ok (.i2b, 1) := by decide +kernel
theorem dX4_putFourBytes_29 : decode cX4_putFourBytes 29 = .ok (.bastore, 1) := by decide +kernel
theorem dX4_putFourBytes_30 : decode cX4_putFourBytes 30 = .ok (.aload_n 0, 1) := by decide +kernel
theorem dX4_putFourBytes_31 : decode cX4_putFourBytes 31 = .ok (.dup, 1) := by decide +kernel
theorem dX4_putFourBytes_32 : decode cX4_putFourBytes 32 = .ok (.getfield 15, 3) := by decide +kernel
theorem dX4_putFourBytes_35 : decode cX4_putFourBytes 35 = .ok (.iconst 1, 1) := by decide +kernel
theorem dX4_putFourBytes_36 : decode cX4_putFourBytes 36 = .ok (.iadd, 1) := by decide +kernel
theorem dX4_putFourBytes_37 : decode cX4_putFourBytes 37 = .ok (.putfield 15, 3) := by decide +kernel
theorem dX4_putFourBytes_40 : decode cX4_putFourBytes 40 = .ok (.iinc 2 (-8), 3) := by decide +kernel
theorem dX4_putFourBytes_43 : decode cX4_putFourBytes 43 = .ok (.goto (-40), 3) := by decide +kernel
theorem dX4_putFourBytes_46 : decode cX4_putFourBytes 46 = .ok (.return_, 1) := by decide +kernel
theorem dX4_readSetup_0 : decode cX4_readSetup 0 = .ok (.aload_n 0, 1) := by decide +kernel
theorem dX4_readSetup_1 : decode cX4_readSetup 1 = .ok (.iload_n 1, 1) := by decide +kernel
theorem dX4_readSetup_2 : decode cX4_readSetup 2 = .ok (.aload_n 0, 1) := by decide +kernel
theorem dX4_readSetup_3 : decode cX4_readSetup 3 = .ok (.getfield 15, 3) := by decide +kernel
theorem dX4_readSetup_6 : decode cX4_readSetup 6 = .ok (.invokestatic 19, 3) := by decide +kernel
theorem dX4_readSetup_9 : decode cX4_readSetup 9 = .ok (.putfield 25, 3) := by decide +kernel
theorem dX4_readSetup_12 : decode cX4_readSetup 12 = .ok (.aload_n 0, 1) := by decide +kernel
theorem dX4_readSetup_13 : decode cX4_readSetup 13 = .ok (.iconst 0, 1) := by decide +kernel
theorem dX4_readSetup_14 : decode cX4_readSetup 14 = .ok (.putfield 28, 3) := by decide +kernel
theorem dX4_readSetup_17 : decode cX4_readSetup 17 = .ok (.aload_n 0, 1) := by decide +kernel
theorem dX4_readSetup_18 : decode cX4_readSetup 18 = .ok (.iconst 0, 1) := by decide +kernel
theorem dX4_readSetup_19 : decode cX4_readSetup 19 = .ok (.putfield 31, 3) := by decide +kernel
theorem dX4_readSetup_22 : decode cX4_readSetup 22 = .ok (.aload_n 0, 1) := by decide +kernel
theorem dX4_readSetup_23 : decode cX4_readSetup 23 = .ok (.iconst (-1), 1) := by decide +kernel
theorem dX4_readSetup_24 : decode cX4_readSetup 24 = .ok (.putfield 34, 3) := by decide +kernel
theorem dX4_readSetup_27 : decode cX4_readSetup 27 = .ok (.aload_n 0, 1) := by decide +kernel
theorem dX4_readSetup_28 : decode cX4_readSetup 28 = .ok (.iconst 0, 1) := by decide +kernel
theorem dX4_readSetup_29 : decode cX4_readSetup 29 = .ok (.putfield 37, 3) := by decide +kernel
theorem dX4_readSetup_32 : decode cX4_readSetup 32 = .ok (.aload_n 0, 1) := by decide +kernel
theorem dX4_readSetup_33 : decode cX4_readSetup 33 = .ok (.iconst 0, 1) := by decide +kernel
theorem dX4_readSetup_34 : decode cX4_readSetup 34 = .ok (.putfield 41, 3) := by decide +kernel
theorem dX4_readSetup_37 : decode cX4_readSetup 37 = .ok (.aload_n 0, 1) := by decide +kernel
theorem dX4_readSetup_38 : decode cX4_readSetup 38 = .ok (.iconst 0, 1) := by decide +kernel
theorem dX4_readSetup_39 : decode cX4_readSetup 39 = .ok (.putfield 44, 3) := by decide +kernel
theorem dX4_readSetup_42 : decode cX4_readSetup 42 = .ok (.aload_n 0, 1) := by decide +kernel
theorem dX4_readSetup_43 : decode cX4_readSetup 43 = .ok (.iconst 0, 1) := by decide +kernel
theorem dX4_readSetup_44 : decode cX4_readSetup 44 = .ok (.putfield 47, 3) := by decide +kernel
theorem dX4_readSetup_47 : decode cX4_readSetup 47 = .ok (.aload_n 0, 1) := by decide +kernel
theorem dX4_readSetup_48 : decode cX4_readSetup 48 = .ok (.invokevirtual 50, 3) := by decide +kernel
theorem dX4_readSetup_51 : decode cX4_readSetup 51 = .ok (.aload_n 0, 1) := by decide +kernel
theorem dX4_readSetup_52 : decode cX4_readSetup 52 = .ok (.aload_n 2, 1) := by decide +kernel
theorem dX4_readSetup_53 : decode cX4_readSetup 53 = .ok (.invokevirtual 53, 3) := by decide +kernel
theorem dX4_readSetup_56 : decode cX4_readSetup 56 = .ok (.iconst 0, 1) := by decide +kernel
theorem dX4_readSetup_57 : decode cX4_readSetup 57 = .ok (.istore_n 3, 1) := by decide +kernel
theorem dX4_readSetup_58 : decode cX4_readSetup 58 = .ok (.iload_n 3, 1) := by decide +kernel
theorem dX4_readSetup_59 : decode cX4_readSetup 59 = .ok (.aload_n 0, 1) := by decide +kernel
theorem dX4_readSetup_60 : decode cX4_readSetup 60 = .ok (.getfield 25, 3) := by decide +kernel
theorem dX4_readSetup_63 : decode cX4_readSetup 63 = .ok (.if_icmp .ge 32, 3) := by decide +kernel
theorem dX4_readSetup_66 : decode cX4_readSetup 66 = .ok (.aload_n 0, 1) := by decide +kernel
theorem dX4_readSetup_67 : decode cX4_readSetup 67 = .ok (.getfield 31, 3) := by decide +kernel
theorem dX4_readSetup_70 : decode cX4_readSetup 70 = .ok (.ifCond .ne 25, 3) := by decide +kernel
theorem dX4_readSetup_73 : decode cX4_readSetup 73 = .ok (.aload_n 0, 1) := by decide +kernel
theorem dX4_readSetup_74 : decode cX4_readSetup 74 = .ok (.getfield 57, 3) := by decide +kernel
theorem dX4_readSetup_77 : decode cX4_readSetup 77 = .ok (.ifCond .eq 18, 3) := by decide +kernel
theorem dX4_readSetup_80 : decode cX4_readSetup 80 = .ok (.aload_n 0, 1) := by decide +kernel
theorem dX4_readSetup_81 : decode cX4_readSetup 81 = .ok (.aload_n 2, 1) := by decide +kernel
theorem dX4_readSetup_82 : decode cX4_readSetup 82 = .ok (.invokevirtual 60, 3) := by decide +kernel
theorem dX4_readSetup_85 : decode cX4_readSetup 85 = .ok (.aload_n 0, 1) := by decide +kernel
theorem dX4_readSetup_86 : decode cX4_readSetup 86 = .ok (.invokevirtual 63, 3) := by decide +kernel
theorem dX4_readSetup_89 : decode cX4_readSetup 89 = .ok (.iinc 3 1, 3) := by decide +kernel
theorem dX4_readSetup_92 : decode cX4_readSetup 92 = .ok (.goto (-34), 3) := by decide +kernel
theorem dX4_readSetup_95 : decode cX4_readSetup 95 = .ok (.aload_n 0, 1) := by decide +kernel
theorem dX4_readSetup_96 : decode cX4_readSetup 96 = .ok (.getfield 31, 3) := by decide +kernel
theorem dX4_readSetup_99 : decode cX4_readSetup 99 = .ok (.ireturn, 1) := by decide +kernel
theorem dX4_goOn_0 : decode cX4_goOn 0 = .ok (.aload_n 0, 1) := by decide +kernel
theorem dX4_goOn_1 : decode cX4_goOn 1 = .ok (.aload_n 0, 1) := by decide +kernel
theorem dX4_goOn_2 : decode cX4_goOn 2 = .ok (.getfield 28, 3) := by decide +kernel
theorem dX4_goOn_5 : decode cX4_goOn 5 = .ok (.putfield 66, 3) := by decide +kernel
theorem dX4_goOn_8 : decode cX4_goOn 8 = .ok (.aload_n 0, 1) := by decide +kernel
theorem dX4_goOn_9 : decode cX4_goOn 9 = .ok (.getfield 66, 3) := by decide +kernel
theorem dX4_goOn_12 : decode cX4_goOn 12 = .ok (.aload_n 0, 1) := by decide +kernel
theorem dX4_goOn_13 : decode cX4_goOn 13 = .ok (.getfield 25, 3) := by decide +kernel
theorem dX4_goOn_16 : decode cX4_goOn 16 = .ok (.if_icmp .ge 30, 3) := by decide +kernel
theorem dX4_goOn_19 : decode cX4_goOn 19 = .ok (.aload_n 0, 1) := by decide +kernel
theorem dX4_goOn_20 : decode cX4_goOn 20 = .ok (.getfield 9, 3) := by decide +kernel
theorem dX4_goOn_23 : decode cX4_goOn 23 = .ok (.aload_n 0, 1) := by decide +kernel
theorem dX4_goOn_24 : decode cX4_goOn 24 = .ok (.getfield 66, 3) := by decide +kernel
theorem dX4_goOn_27 : decode cX4_goOn 27 = .ok (.baload, 1) := by decide +kernel
theorem dX4_goOn_28 : decode cX4_goOn 28 = .ok (.bipush 32, 2) := by decide +kernel
theorem dX4_goOn_30 : decode cX4_goOn 30 = .ok (.if_icmp .ne 16, 3) := by decide +kernel
theorem dX4_goOn_33 : decode cX4_goOn 33 = .ok (.aload_n 0, 1) := by decide +kernel
theorem dX4_goOn_34 : decode cX4_goOn 34 = .ok (.dup, 1) := by decide +kernel
theorem dX4_goOn_35 : decode cX4_goOn 35 = .ok (.getfield 66, 3) := by decide +kernel
theorem dX4_goOn_38 : decode cX4_goOn 38 = .ok (.iconst 1, 1) := by decide +kernel
theorem dX4_goOn_39 : decode cX4_goOn 39 = .ok (.iadd, 1) := by decide +kernel
theorem dX4_goOn_40 : decode cX4_goOn 40 = .ok (.putfield 66, 3) := by decide +kernel
theorem dX4_goOn_43 : decode cX4_goOn 43 = .ok (.goto (-35), 3) := by decide +kernel
theorem dX4_goOn_46 : decode cX4_goOn 46 = .ok (.aload_n 0, 1) := by decide +kernel
theorem dX4_goOn_47 : decode cX4_goOn 47 = .ok (.aload_n 0, 1) := by decide +kernel
theorem dX4_goOn_48 : decode cX4_goOn 48 = .ok (.getfield 66, 3) := by decide +kernel
theorem dX4_goOn_51 : decode cX4_goOn 51 = .ok (.putfield 28, 3) := by decide +kernel
theorem dX4_goOn_54 : decode cX4_goOn 54 = .ok (.aload_n 0, 1) := by decide +kernel
theorem dX4_goOn_55 : decode cX4_goOn 55 = .ok (.getfield 66, 3) := by decide +kernel
theorem dX4_goOn_58 : decode cX4_goOn 58 = .ok (.aload_n 0, 1) := by decide +kernel
theorem dX4_goOn_59 : decode cX4_goOn 59 = .ok (.getfield 25, 3) := by decide +kernel
theorem dX4_goOn_62 : decode cX4_goOn 62 = .ok (.if_icmp .lt 11, 3) := by decide +kernel
theorem dX4_goOn_65 : decode cX4_goOn 65 = .ok (.aload_n 0, 1) := by decide +kernel
theorem dX4_goOn_66 : decode cX4_goOn 66 = .ok (.iconst 0, 1) := by decide +kernel
theorem dX4_goOn_67 : decode cX4_goOn 67 = .ok (.putfield 57, 3) := by decide +kernel
theorem dX4_goOn_70 : decode cX4_goOn 70 = .ok (.goto 138, 3) := by decide +kernel
theorem dX4_goOn_73 : decode cX4_goOn 73 = .ok (.aload_n 0, 1) := by decide +kernel
theorem dX4_goOn_74 : decode cX4_goOn 74 = .ok (.aload_n 0, 1) := by decide +kernel
theorem dX4_goOn_75 : decode cX4_goOn 75 = .ok (.getfield 66, 3) := by decide +kernel
theorem dX4_goOn_78 : decode cX4_goOn 78 = .ok (.invokevirtual 69, 3) := by decide +kernel
theorem dX4_goOn_81 : decode cX4_goOn 81 = .ok (.ifCond .eq 43, 3) := by decide +kernel
theorem dX4_goOn_84 : decode cX4_goOn 84 = .ok (.aload_n 0, 1) := by decide +kernel
theorem dX4_goOn_85 : decode cX4_goOn 85 = .ok (.iconst 2, 1) := by decide +kernel
theorem dX4_goOn_86 : decode cX4_goOn 86 = .ok (.putfield 57, 3) := by decide +kernel
theorem dX4_goOn_89 : decode cX4_goOn 89 = .ok (.aload_n 0, 1) := by decide +kernel
theorem dX4_goOn_90 : decode cX4_goOn 90 = .ok (.getfield 28, 3) := by decide +kernel
theorem dX4_goOn_93 : decode cX4_goOn 93 = .ok (.aload_n 0, 1) := by decide +kernel
theorem dX4_goOn_94 : decode cX4_goOn 94 = .ok (.getfield 25, 3) := by decide +kernel
theorem dX4_goOn_97 : decode cX4_goOn 97 = .ok (.if_icmp .ge 111, 3) := by decide +kernel
theorem dX4_goOn_100 : decode cX4_goOn 100 = .ok (.aload_n 0, 1) := by decide +kernel
theorem dX4_goOn_101 : decode cX4_goOn 101 = .ok (.aload_n 0, 1) := by decide +kernel
theorem dX4_goOn_102 : decode cX4_goOn 102 = .ok (.getfield 28, 3) := by decide +kernel
theorem dX4_goOn_105 : decode cX4_goOn 105 = .ok (.invokevirtual 69, 3) := by decide +kernel
theorem dX4_goOn_108 : decode cX4_goOn 108 = .ok (.ifCond .eq 100, 3) := by decide +kernel
theorem dX4_goOn_111 : decode cX4_goOn 111 = .ok (.aload_n 0, 1) := by decide +kernel
theorem dX4_goOn_112 : decode cX4_goOn 112 = .ok (.dup, 1) := by decide +kernel
theorem dX4_goOn_113 : decode cX4_goOn 113 = .ok (.getfield 28, 3) := by decide +kernel
theorem dX4_goOn_116 : decode cX4_goOn 116 = .ok (.iconst 1, 1) := by decide +kernel
theorem dX4_goOn_117 : decode cX4_goOn 117 = .ok (.iadd, 1) := by decide +kernel
theorem dX4_goOn_118 : decode cX4_goOn 118 = .ok (.putfield 28, 3) := by decide +kernel
theorem dX4_goOn_121 : decode cX4_goOn 121 = .ok (.goto (-32), 3) := by decide +kernel
theorem dX4_goOn_124 : decode cX4_goOn 124 = .ok (.aload_n 0, 1) := by decide +kernel
theorem dX4_goOn_125 : decode cX4_goOn 125 = .ok (.aload_n 0, 1) := by decide +kernel
theorem dX4_goOn_126 : decode cX4_goOn 126 = .ok (.getfield 66, 3) := by decide +kernel
theorem dX4_goOn_129 : decode cX4_goOn 129 = .ok (.invokevirtual 73, 3) := by decide +kernel
theorem dX4_goOn_132 : decode cX4_goOn 132 = .ok (.ifCond .eq 43, 3) := by decide +kernel
theorem dX4_goOn_135 : decode cX4_goOn 135 = .ok (.aload_n 0, 1) := by decide +kernel
theorem dX4_goOn_136 : decode cX4_goOn 136 = .ok (.iconst 1, 1) := by decide +kernel
theorem dX4_goOn_137 : decode cX4_goOn 137 = .ok (.putfield 57, 3) := by decide +kernel
theorem dX4_goOn_140 : decode cX4_goOn 140 = .ok (.aload_n 0, 1) := by decide +kernel
theorem dX4_goOn_141 : decode cX4_goOn 141 = .ok (.getfield 28, 3) := by decide +kernel
theorem dX4_goOn_144 : decode cX4_goOn 144 = .ok (.aload_n 0, 1) := by decide +kernel
theorem dX4_goOn_145 : decode cX4_goOn 145 = .ok (.getfield 25, 3) := by decide +kernel
theorem dX4_goOn_148 : decode cX4_goOn 148 = .ok (.if_icmp .ge 60, 3) := by decide +kernel
theorem dX4_goOn_151 : decode cX4_goOn 151 = .ok (.aload_n 0, 1) := by decide +kernel
theorem dX4_goOn_152 : decode cX4_goOn 152 = .ok (.aload_n 0, 1) := by decide +kernel
theorem dX4_goOn_153 : decode cX4_goOn 153 = .ok (.getfield 28, 3) := by decide +kernel
theorem dX4_goOn_156 : decode cX4_goOn 156 = .ok (.invokevirtual 73, 3) := by decide +kernel
theorem dX4_goOn_159 : decode cX4_goOn 159 = .ok (.ifCond .eq 49, 3) := by decide +kernel
theorem dX4_goOn_162 : decode cX4_goOn 162 = .ok (.aload_n 0, 1) := by decide +kernel
theorem dX4_goOn_163 : decode cX4_goOn 163 = .ok (.dup, 1) := by decide +kernel
theorem dX4_goOn_164 : decode cX4_goOn 164 = .ok (.getfield 28, 3) := by decide +kernel
theorem dX4_goOn_167 : decode cX4_goOn 167 = .ok (.iconst 1, 1) := by decide +kernel
theorem dX4_goOn_168 : decode cX4_goOn 168 = .ok (.iadd, 1) := by decide +kernel
theorem dX4_goOn_169 : decode cX4_goOn 169 = .ok (.putfield 28, 3) := by decide +kernel
theorem dX4_goOn_172 : decode cX4_goOn 172 = .ok (.goto (-32), 3) := by decide +kernel
theorem dX4_goOn_175 : decode cX4_goOn 175 = .ok (.aload_n 0, 1) := by decide +kernel
theorem dX4_goOn_176 : decode cX4_goOn 176 = .ok (.aload_n 0, 1) := by decide +kernel
theorem dX4_goOn_177 : decode cX4_goOn 177 = .ok (.getfield 9, 3) := by decide +kernel
theorem dX4_goOn_180 : decode cX4_goOn 180 = .ok (.aload_n 0, 1) := by decide +kernel
theorem dX4_goOn_181 : decode cX4_goOn 181 = .ok (.getfield 66, 3) := by decide +kernel
theorem dX4_goOn_184 : decode cX4_goOn 184 = .ok (.baload, 1) := by decide +kernel
theorem dX4_goOn_185 : decode cX4_goOn 185 = .ok (.bipush 59, 2) := by decide +kernel
theorem dX4_goOn_187 : decode cX4_goOn 187 = .ok (.if_icmp .ne 7, 3) := by decide +kernel
theorem dX4_goOn_190 : decode cX4_goOn 190 = .ok (.iconst 3, 1) := by decide +kernel
theorem dX4_goOn_191 : decode cX4_goOn 191 = .ok (.goto 4, 3) := by decide +kernel
theorem dX4_goOn_194 : decode cX4_goOn 194 = .ok (.iconst 4, 1) := by decide +kernel
theorem dX4_goOn_195 : decode cX4_goOn 195 = .ok (.putfield 57, 3) := by decide +kernel
theorem dX4_goOn_198 : decode cX4_goOn 198 = .ok (.aload_n 0, 1) := by decide +kernel
theorem dX4_goOn_199 : decode cX4_goOn 199 = .ok (.dup, 1) := by decide +kernel
theorem dX4_goOn_200 : decode cX4_goOn 200 = .ok (.getfield 28, 3) := by decide +kernel
theorem dX4_goOn_203 : decode cX4_goOn 203 = .ok (.iconst 1, 1) := by decide +kernel
theorem dX4_goOn_204 : decode cX4_goOn 204 = .ok (.iadd, 1) := by decide +kernel
theorem dX4_goOn_205 : decode cX4_goOn 205 = .ok (.putfield 28, 3) := by decide +kernel
theorem dX4_goOn_208 : decode cX4_goOn 208 = .ok (.return_, 1) := by decide +kernel
theorem dX4_isDigit_0 : decode cX4_isDigit 0 = .ok (.aload_n 0, 1) := by decide +kernel
theorem dX4_isDigit_1 : decode cX4_isDigit 1 = .ok (.getfield 9, 3) := by decide +kernel
theorem dX4_isDigit_4 : decode cX4_isDigit 4 = .ok (.iload_n 1, 1) := by decide +kernel
theorem dX4_isDigit_5 : decode cX4_isDigit 5 = .ok (.baload, 1) := by decide +kernel
theorem dX4_isDigit_6 : decode cX4_isDigit 6 = .ok (.bipush 48, 2) := by decide +kernel
theorem dX4_isDigit_8 : decode cX4_isDigit 8 = .ok (.if_icmp .lt 18, 3) := by decide +kernel
theorem dX4_isDigit_11 : decode cX4_isDigit 11 = .ok (.aload_n 0, 1) := by decide +kernel
theorem dX4_isDigit_12 : decode cX4_isDigit 12 = .ok (.getfield 9, 3) := by decide +kernel
theorem dX4_isDigit_15 : decode cX4_isDigit 15 = .ok (.iload_n 1, 1) := by decide +kernel
theorem dX4_isDigit_16 : decode cX4_isDigit 16 = .ok (.baload, 1) := by decide +kernel
theorem dX4_isDigit_17 : decode cX4_isDigit 17 = .ok (.bipush 57, 2) := by decide +kernel
theorem dX4_isDigit_19 : decode cX4_isDigit 19 = .ok (.if_icmp .gt 7, 3) := by decide +kernel
theorem dX4_isDigit_22 : decode cX4_isDigit 22 = .ok (.iconst 1, 1) := by decide +kernel
theorem dX4_isDigit_23 : decode cX4_isDigit 23 = .ok (.goto 4, 3) := by decide +kernel
theorem dX4_isDigit_26 : decode cX4_isDigit 26 = .ok (.iconst 0, 1) := by decide +kernel
theorem dX4_isDigit_27 : decode cX4_isDigit 27 = .ok (.ireturn, 1) := by decide +kernel
theorem dX4_isLetter_0 : decode cX4_isLetter 0 = .ok (.aload_n 0, 1) := by decide +kernel
theorem dX4_isLetter_1 : decode cX4_isLetter 1 = .ok (.getfield 9, 3) := by decide +kernel
theorem dX4_isLetter_4 : decode cX4_isLetter 4 = .ok (.iload_n 1, 1) := by decide +kernel
theorem dX4_isLetter_5 : decode cX4_isLetter 5 = .ok (.baload, 1) := by decide +kernel
theorem dX4_isLetter_6 : decode cX4_isLetter 6 = .ok (.bipush 97, 2) := by decide +kernel
theorem dX4_isLetter_8 : decode cX4_isLetter 8 = .ok (.if_icmp .lt 18, 3) := by decide +kernel
theorem dX4_isLetter_11 : decode cX4_isLetter 11 = .ok (.aload_n 0, 1) := by decide +kernel
theorem dX4_isLetter_12 : decode cX4_isLetter 12 = .ok (.getfield 9, 3) := by decide +kernel
theorem dX4_isLetter_15 : decode cX4_isLetter 15 = .ok (.iload_n 1, 1) := by decide +kernel
theorem dX4_isLetter_16 : decode cX4_isLetter 16 = .ok (.baload, 1) := by decide +kernel
theorem dX4_isLetter_17 : decode cX4_isLetter 17 = .ok (.bipush 122, 2) := by decide +kernel
theorem dX4_isLetter_19 : decode cX4_isLetter 19 = .ok (.if_icmp .gt 7, 3) := by decide +kernel
theorem dX4_isLetter_22 : decode cX4_isLetter 22 = .ok (.iconst 1, 1) := by decide +kernel
theorem dX4_isLetter_23 : decode cX4_isLetter 23 = .ok (.goto 4, 3) := by decide +kernel
theorem dX4_isLetter_26 : decode cX4_isLetter 26 = .ok (.iconst 0, 1) := by decide +kernel
theorem dX4_isLetter_27 : decode cX4_isLetter 27 = .ok (.ireturn, 1) := by decide +kernel
theorem dX4_digitAt_0 : decode cX4_digitAt 0 = .ok (.aload_n 0, 1) := by decide +kernel
theorem dX4_digitAt_1 : decode cX4_digitAt 1 = .ok (.getfield 9, 3) := by decide +kernel
theorem dX4_digitAt_4 : decode cX4_digitAt 4 = .ok (.iload_n 1, 1) := by decide +kernel
theorem dX4_digitAt_5 : decode cX4_digitAt 5 = .ok (.baload, 1) := by decide +kernel
theorem dX4_digitAt_6 : decode cX4_digitAt 6 = .ok (.bipush 48, 2) := by decide +kernel
theorem dX4_digitAt_8 : decode cX4_digitAt 8 = .ok (.isub, 1) := by decide +kernel
theorem dX4_digitAt_9 : decode cX4_digitAt 9 = .ok (.ireturn, 1) := by decide +kernel
theorem dX4_isWord_0 : decode cX4_isWord 0 = .ok (.aload_n 0, 1) := by decide +kernel
theorem dX4_isWord_1 : decode cX4_isWord 1 = .ok (.getfield 57, 3) := by decide +kernel
theorem dX4_isWord_4 : decode cX4_isWord 4 = .ok (.iconst 1, 1) := by decide +kernel
theorem dX4_isWord_5 : decode cX4_isWord 5 = .ok (.if_icmp .ne 19, 3) := by decide +kernel
theorem dX4_isWord_8 : decode cX4_isWord 8 = .ok (.aload_n 0, 1) := by decide +kernel
theorem dX4_isWord_9 : decode cX4_isWord 9 = .ok (.getfield 28, 3) := by decide +kernel
theorem dX4_isWord_12 : decode cX4_isWord 12 = .ok (.aload_n 0, 1) := by decide +kernel
theorem dX4_isWord_13 : decode cX4_isWord 13 = .ok (.getfield 66, 3) := by decide +kernel
theorem dX4_isWord_16 : decode cX4_isWord 16 = .ok (.isub, 1) := by decide +kernel
theorem dX4_isWord_17 : decode cX4_isWord 17 = .ok (.aload_n 1, 1) := by decide +kernel
theorem dX4_isWord_18 : decode cX4_isWord 18 = .ok (.invokevirtual 76, 3) := by decide +kernel
theorem dX4_isWord_21 : decode cX4_isWord 21 = .ok (.if_icmp .eq 5, 3) := by decide +kernel
theorem dX4_isWord_24 : decode cX4_isWord 24 = .ok (.iconst 0, 1) := by decide +kernel
theorem dX4_isWord_25 : decode cX4_isWord 25 = .ok (.ireturn, 1) := by decide +kernel
theorem dX4_isWord_26 : decode cX4_isWord 26 = .ok (.iconst 0, 1) := by decide +kernel
theorem dX4_isWord_27 : decode cX4_isWord 27 = .ok (.istore_n 2, 1) := by decide +kernel
theorem dX4_isWord_28 : decode cX4_isWord 28 = .ok (.iload_n 2, 1) := by decide +kernel
theorem dX4_isWord_29 : decode cX4_isWord 29 = .ok (.aload_n 1, 1) := by decide +kernel
theorem dX4_isWord_30 : decode cX4_isWord 30 = .ok (.invokevirtual 76, 3) := by decide +kernel
theorem dX4_isWord_33 : decode cX4_isWord 33 = .ok (.if_icmp .ge 30, 3) := by decide +kernel
theorem dX4_isWord_36 : decode cX4_isWord 36 = .ok (.aload_n 0, 1) := by decide +kernel
theorem dX4_isWord_37 : decode cX4_isWord 37 = .ok (.getfield 9, 3) := by decide +kernel
theorem dX4_isWord_40 : decode cX4_isWord 40 = .ok (.aload_n 0, 1) := by decide +kernel
theorem dX4_isWord_41 : decode cX4_isWord 41 = .ok (.getfield 66, 3) := by decide +kernel
theorem dX4_isWord_44 : decode cX4_isWord 44 = .ok (.iload_n 2, 1) := by decide +kernel
theorem dX4_isWord_45 : decode cX4_isWord 45 = .ok (.iadd, 1) := by decide +kernel
theorem dX4_isWord_46 : decode cX4_isWord 46 = .ok (.baload, 1) := by decide +kernel
theorem dX4_isWord_47 : decode cX4_isWord 47 = .ok (.aload_n 1, 1) := by decide +kernel
theorem dX4_isWord_48 : decode cX4_isWord 48 = .ok (.iload_n 2, 1) := by decide +kernel
theorem dX4_isWord_49 : decode cX4_isWord 49 = .ok (.invokevirtual 81, 3) := by decide +kernel
theorem dX4_isWord_52 : decode cX4_isWord 52 = .ok (.if_icmp .eq 5, 3) := by decide +kernel
theorem dX4_isWord_55 : decode cX4_isWord 55 = .ok (.iconst 0, 1) := by decide +kernel
theorem dX4_isWord_56 : decode cX4_isWord 56 = .ok (.ireturn, 1) := by decide +kernel
theorem dX4_isWord_57 : decode cX4_isWord 57 = .ok (.iinc 2 1, 3) := by decide +kernel
theorem dX4_isWord_60 : decode cX4_isWord 60 = .ok (.goto (-32), 3) := by decide +kernel
theorem dX4_isWord_63 : decode cX4_isWord 63 = .ok (.iconst 1, 1) := by decide +kernel
theorem dX4_isWord_64 : decode cX4_isWord 64 = .ok (.ireturn, 1) := by decide +kernel
theorem dX4_fail_0 : decode cX4_fail 0 = .ok (.aload_n 0, 1) := by decide +kernel
theorem dX4_fail_1 : decode cX4_fail 1 = .ok (.getfield 31, 3) := by decide +kernel
theorem dX4_fail_4 : decode cX4_fail 4 = .ok (.ifCond .ne 13, 3) := by decide +kernel
theorem dX4_fail_7 : decode cX4_fail 7 = .ok (.aload_n 0, 1) := by decide +kernel
theorem dX4_fail_8 : decode cX4_fail 8 = .ok (.iload_n 1, 1) := by decide +kernel
theorem dX4_fail_9 : decode cX4_fail 9 = .ok (.putfield 31, 3) := by decide +kernel
theorem dX4_fail_12 : decode cX4_fail 12 = .ok (.aload_n 0, 1) := by decide +kernel
theorem dX4_fail_13 : decode cX4_fail 13 = .ok (.iload_n 2, 1) := by decide +kernel
theorem dX4_fail_14 : decode cX4_fail 14 = .ok (.putfield 34, 3) := by decide +kernel
theorem dX4_fail_17 : decode cX4_fail 17 = .ok (.return_, 1) := by decide +kernel
theorem dX4_readWord_0 : decode cX4_readWord 0 = .ok (.aload_n 0, 1) := by decide +kernel
theorem dX4_readWord_1 : decode cX4_readWord 1 = .ok (.aload_n 1, 1) := by decide +kernel
theorem dX4_readWord_2 : decode cX4_readWord 2 = .ok (.invokevirtual 85, 3) := by decide +kernel
theorem dX4_readWord_5 : decode cX4_readWord 5 = .ok (.ifCond .eq 10, 3) := by decide +kernel
theorem dX4_readWord_8 : decode cX4_readWord 8 = .ok (.aload_n 0, 1) := by decide +kernel
theorem dX4_readWord_9 : decode cX4_readWord 9 = .ok (.invokevirtual 50, 3) := by decide +kernel
theorem dX4_readWord_12 : decode cX4_readWord 12 = .ok (.goto 13, 3) := by decide +kernel
theorem dX4_readWord_15 : decode cX4_readWord 15 = .ok (.aload_n 0, 1) := by decide +kernel
theorem dX4_readWord_16 : decode cX4_readWord 16 = .ok (.bipush (-2), 2) := by decide +kernel
theorem dX4_readWord_18 : decode cX4_readWord 18 = .ok (.aload_n 0, 1) := by decide +kernel
theorem dX4_readWord_19 : decode cX4_readWord 19 = .ok (.getfield 66, 3) := by decide +kernel
theorem dX4_readWord_22 : decode cX4_readWord 22 = .ok (.invokevirtual 89, 3) := by decide +kernel
theorem dX4_readWord_25 : decode cX4_readWord 25 = .ok (.return_, 1) := by decide +kernel
theorem dX4_readSemicolon_0 : decode cX4_readSemicolon 0 = .ok (.aload_n 0, 1) := by decide +kernel
theorem dX4_readSemicolon_1 : decode cX4_readSemicolon 1 = .ok (.getfield 57, 3) := by decide +kernel
theorem dX4_readSemicolon_4 : decode cX4_readSemicolon 4 = .ok (.iconst 3, 1) := by decide +kernel
theorem dX4_readSemicolon_5 : decode cX4_readSemicolon 5 = .ok (.if_icmp .ne 10, 3) := by decide +kernel
theorem dX4_readSemicolon_8 : decode cX4_readSemicolon 8 = .ok (.aload_n 0, 1) := by decide +kernel
theorem dX4_readSemicolon_9 : decode cX4_readSemicolon 9 = .ok (.invokevirtual 50, 3) := by decide +kernel
theorem dX4_readSemicolon_12 : decode cX4_readSemicolon 12 = .ok (.goto 13, 3) := by decide +kernel
theorem dX4_readSemicolon_15 : decode cX4_readSemicolon 15 = .ok (.aload_n 0, 1) := by decide +kernel
theorem dX4_readSemicolon_16 : decode cX4_readSemicolon 16 = .ok (.bipush (-2), 2) := by decide +kernel
theorem dX4_readSemicolon_18 : decode cX4_readSemicolon 18 = .ok (.aload_n 0, 1) := by decide +kernel
theorem dX4_readSemicolon_19 : decode cX4_readSemicolon 19 = .ok (.getfield 66, 3) := by decide +kernel
theorem dX4_readSemicolon_22 : decode cX4_readSemicolon 22 = .ok (.invokevirtual 89, 3) := by decide +kernel
theorem dX4_readSemicolon_25 : decode cX4_readSemicolon 25 = .ok (.return_, 1) := by decide +kernel
theorem dX4_readNumber_0 : decode cX4_readNumber 0 = .ok (.aload_n 0, 1) := by decide +kernel
theorem dX4_readNumber_1 : decode cX4_readNumber 1 = .ok (.getfield 57, 3) := by decide +kernel
theorem dX4_readNumber_4 : decode cX4_readNumber 4 = .ok (.iconst 2, 1) := by decide +kernel
theorem dX4_readNumber_5 : decode cX4_readNumber 5 = .ok (.if_icmp .eq 15, 3) := by decide +kernel
theorem dX4_readNumber_8 : decode cX4_readNumber 8 = .ok (.aload_n 0, 1) := by decide +kernel
theorem dX4_readNumber_9 : decode cX4_readNumber 9 = .ok (.bipush (-2), 2) := by decide +kernel
theorem dX4_readNumber_11 : decode cX4_readNumber 11 = .ok (.aload_n 0, 1) := by decide +kernel
theorem dX4_readNumber_12 : decode cX4_readNumber 12 = .ok (.getfield 66, 3) := by decide +kernel
theorem dX4_readNumber_15 : decode cX4_readNumber 15 = .ok (.invokevirtual 89, 3) := by decide +kernel
theorem dX4_readNumber_18 : decode cX4_readNumber 18 = .ok (.iload_n 1, 1) := by decide +kernel
theorem dX4_readNumber_19 : decode cX4_readNumber 19 = .ok (.ireturn, 1) := by decide +kernel
theorem dX4_readNumber_20 : decode cX4_readNumber 20 = .ok (.aload_n 0, 1) := by decide +kernel
theorem dX4_readNumber_21 : decode cX4_readNumber 21 = .ok (.aload_n 0, 1) := by decide +kernel
theorem dX4_readNumber_22 : decode cX4_readNumber 22 = .ok (.getfield 66, 3) := by decide +kernel
theorem dX4_readNumber_25 : decode cX4_readNumber 25 = .ok (.putfield 93, 3) := by decide +kernel
theorem dX4_readNumber_28 : decode cX4_readNumber 28 = .ok (.aload_n 0, 1) := by decide +kernel
theorem dX4_readNumber_29 : decode cX4_readNumber 29 = .ok (.iload_n 2, 1) := by decide +kernel
theorem dX4_readNumber_30 : decode cX4_readNumber 30 = .ok (.iconst 1, 1) := by decide +kernel
theorem dX4_readNumber_31 : decode cX4_readNumber 31 = .ok (.iadd, 1) := by decide +kernel
theorem dX4_readNumber_32 : decode cX4_readNumber 32 = .ok (.invokevirtual 96, 3) := by decide +kernel
theorem dX4_readNumber_35 : decode cX4_readNumber 35 = .ok (.istore_n 3, 1) := by decide +kernel
theorem dX4_readNumber_36 : decode cX4_readNumber 36 = .ok (.aload_n 0, 1) := by decide +kernel
theorem dX4_readNumber_37 : decode cX4_readNumber 37 = .ok (.invokevirtual 50, 3) := by decide +kernel
theorem dX4_readNumber_40 : decode cX4_readNumber 40 = .ok (.iload_n 3, 1) := by decide +kernel
theorem dX4_readNumber_41 : decode cX4_readNumber 41 = .ok (.iload_n 1, 1) := by decide +kernel
theorem dX4_readNumber_42 : decode cX4_readNumber 42 = .ok (.if_icmp .lt 8, 3) := by decide +kernel
theorem dX4_readNumber_45 : decode cX4_readNumber 45 = .ok (.iload_n 3, 1) := by decide +kernel
theorem dX4_readNumber_46 : decode cX4_readNumber 46 = .ok (.iload_n 2, 1) := by decide +kernel
theorem dX4_readNumber_47 : decode cX4_readNumber 47 = .ok (.if_icmp .le 15, 3) := by decide +kernel
theorem dX4_readNumber_50 : decode cX4_readNumber 50 = .ok (.aload_n 0, 1) := by decide +kernel
theorem dX4_readNumber_51 : decode cX4_readNumber 51 = .ok (.bipush (-3), 2) := by decide +kernel
theorem dX4_readNumber_53 : decode cX4_readNumber 53 = .ok (.aload_n 0, 1) := by decide +kernel
theorem dX4_readNumber_54 : decode cX4_readNumber 54 = .ok (.getfield 93, 3) := by decide +kernel
theorem dX4_readNumber_57 : decode cX4_readNumber 57 = .ok (.invokevirtual 89, 3) := by decide +kernel
theorem dX4_readNumber_60 : decode cX4_readNumber 60 = .ok (.iload_n 1, 1) := by decide +kernel
theorem dX4_readNumber_61 : decode cX4_readNumber 61 = .ok (.ireturn, 1) := by decide +kernel
theorem dX4_readNumber_62 : decode cX4_readNumber 62 = .ok (.iload_n 3, 1) := by decide +kernel
theorem dX4_readNumber_63 : decode cX4_readNumber 63 = .ok (.ireturn, 1) := by decide +kernel
theorem dX4_valueUpTo_0 : decode cX4_valueUpTo 0 = .ok (.iconst 0, 1) := by decide +kernel
theorem dX4_valueUpTo_1 : decode cX4_valueUpTo 1 = .ok (.istore_n 2, 1) := by decide +kernel
theorem dX4_valueUpTo_2 : decode cX4_valueUpTo 2 = .ok (.aload_n 0, 1) := by decide +kernel
theorem dX4_valueUpTo_3 : decode cX4_valueUpTo 3 = .ok (.getfield 66, 3) := by decide +kernel
theorem dX4_valueUpTo_6 : decode cX4_valueUpTo 6 = .ok (.istore_n 3, 1) := by decide +kernel
theorem dX4_valueUpTo_7 : decode cX4_valueUpTo 7 = .ok (.iload_n 3, 1) := by decide +kernel
theorem dX4_valueUpTo_8 : decode cX4_valueUpTo 8 = .ok (.aload_n 0, 1) := by decide +kernel
theorem dX4_valueUpTo_9 : decode cX4_valueUpTo 9 = .ok (.getfield 28, 3) := by decide +kernel
theorem dX4_valueUpTo_12 : decode cX4_valueUpTo 12 = .ok (.if_icmp .ge 24, 3) := by decide +kernel
theorem dX4_valueUpTo_15 : decode cX4_valueUpTo 15 = .ok (.bipush 10, 2) := by decide +kernel
theorem dX4_valueUpTo_17 : decode cX4_valueUpTo 17 = .ok (.iload_n 2, 1) := by decide +kernel
theorem dX4_valueUpTo_18 : decode cX4_valueUpTo 18 = .ok (.imul, 1) := by decide +kernel
theorem dX4_valueUpTo_19 : decode cX4_valueUpTo 19 = .ok (.aload_n 0, 1) := by decide +kernel
theorem dX4_valueUpTo_20 : decode cX4_valueUpTo 20 = .ok (.iload_n 3, 1) := by decide +kernel
theorem dX4_valueUpTo_21 : decode cX4_valueUpTo 21 = .ok (.invokevirtual 100, 3) := by decide +kernel
theorem dX4_valueUpTo_24 : decode cX4_valueUpTo 24 = .ok (.iadd, 1) := by decide +kernel
theorem dX4_valueUpTo_25 : decode cX4_valueUpTo 25 = .ok (.iload_n 1, 1) := by decide +kernel
theorem dX4_valueUpTo_26 : decode cX4_valueUpTo 26 = .ok (.invokestatic 19, 3) := by decide +kernel
theorem dX4_valueUpTo_29 : decode cX4_valueUpTo 29 = .ok (.istore_n 2, 1) := by decide +kernel
theorem dX4_valueUpTo_30 : decode cX4_valueUpTo 30 = .ok (.iinc 3 1, 3) := by decide +kernel
theorem dX4_valueUpTo_33 : decode cX4_valueUpTo 33 = .ok (.goto (-26), 3) := by decide +kernel
theorem dX4_valueUpTo_36 : decode cX4_valueUpTo 36 = .ok (.iload_n 2, 1) := by decide +kernel
theorem dX4_valueUpTo_37 : decode cX4_valueUpTo 37 = .ok (.ireturn, 1) := by decide +kernel
theorem dX4_readKite_0 : decode cX4_readKite 0 = .ok (.aload_n 0, 1) := by decide +kernel
theorem dX4_readKite_1 : decode cX4_readKite 1 = .ok (.ldc 103, 2) := by decide +kernel
theorem dX4_readKite_3 : decode cX4_readKite 3 = .ok (.invokevirtual 105, 3) := by decide +kernel
theorem dX4_readKite_6 : decode cX4_readKite 6 = .ok (.aload_n 0, 1) := by decide +kernel
theorem dX4_readKite_7 : decode cX4_readKite 7 = .ok (.iconst 1, 1) := by decide +kernel
theorem dX4_readKite_8 : decode cX4_readKite 8 = .ok (.bipush 15, 2) := by decide +kernel
theorem dX4_readKite_10 : decode cX4_readKite 10 = .ok (.invokevirtual 109, 3) := by decide +kernel
theorem dX4_readKite_13 : decode cX4_readKite 13 = .ok (.istore_n 2, 1) := by decide +kernel
theorem dX4_readKite_14 : decode cX4_readKite 14 = .ok (.iload_n 2, 1) := by decide +kernel
theorem dX4_readKite_15 : decode cX4_readKite 15 = .ok (.iconst 2, 1) := by decide +kernel
theorem dX4_readKite_16 : decode cX4_readKite 16 = .ok (.irem, 1) := by decide +kernel
theorem dX4_readKite_17 : decode cX4_readKite 17 = .ok (.ifCond .ne 13, 3) := by decide +kernel
theorem dX4_readKite_20 : decode cX4_readKite 20 = .ok (.aload_n 0, 1) := by decide +kernel
theorem dX4_readKite_21 : decode cX4_readKite 21 = .ok (.bipush (-3), 2) := by decide +kernel
theorem dX4_readKite_23 : decode cX4_readKite 23 = .ok (.aload_n 0, 1) := by decide +kernel
theorem dX4_readKite_24 : decode cX4_readKite 24 = .ok (.getfield 93, 3) := by decide +kernel
theorem dX4_readKite_27 : decode cX4_readKite 27 = .ok (.invokevirtual 89, 3) := by decide +kernel
theorem dX4_readKite_30 : decode cX4_readKite 30 = .ok (.aload_n 0, 1) := by decide +kernel
theorem dX4_readKite_31 : decode cX4_readKite 31 = .ok (.iconst 1, 1) := by decide +kernel
theorem dX4_readKite_32 : decode cX4_readKite 32 = .ok (.bipush 12, 2) := by decide +kernel
theorem dX4_readKite_34 : decode cX4_readKite 34 = .ok (.invokevirtual 109, 3) := by decide +kernel
theorem dX4_readKite_37 : decode cX4_readKite 37 = .ok (.istore_n 3, 1) := by decide +kernel
theorem dX4_readKite_38 : decode cX4_readKite 38 = .ok (.aload_n 0, 1) := by decide +kernel
theorem dX4_readKite_39 : decode cX4_readKite 39 = .ok (.invokevirtual 63, 3) := by decide +kernel
theorem dX4_readKite_42 : decode cX4_readKite 42 = .ok (.aload_n 1, 1) := by decide +kernel
theorem dX4_readKite_43 : decode cX4_readKite 43 = .ok (.iload_n 2, 1) := by decide +kernel
theorem dX4_readKite_44 : decode cX4_readKite 44 = .ok (.iload_n 3, 1) := by decide +kernel
theorem dX4_readKite_45 : decode cX4_readKite 45 = .ok (.invokevirtual 112, 3) := by decide +kernel
theorem dX4_readKite_48 : decode cX4_readKite 48 = .ok (.return_, 1) := by decide +kernel
theorem dX4_readStatement_0 : decode cX4_readStatement 0 = .ok (.aload_n 0, 1) := by decide +kernel
theorem dX4_readStatement_1 : decode cX4_readStatement 1 = .ok (.ldc 117, 2) := by decide +kernel
theorem dX4_readStatement_3 : decode cX4_readStatement 3 = .ok (.invokevirtual 85, 3) := by decide +kernel
theorem dX4_readStatement_6 : decode cX4_readStatement 6 = .ok (.ifCond .eq 11, 3) := by decide +kernel
theorem dX4_readStatement_9 : decode cX4_readStatement 9 = .ok (.aload_n 0, 1) := by decide +kernel
theorem dX4_readStatement_10 : decode cX4_readStatement 10 = .ok (.aload_n 1, 1) := by decide +kernel
theorem dX4_readStatement_11 : decode cX4_readStatement 11 = .ok (.invokevirtual 119, 3) := by decide +kernel
theorem dX4_readStatement_14 : decode cX4_readStatement 14 = .ok (.goto 181, 3) := by decide +kernel
theorem dX4_readStatement_17 : decode cX4_readStatement 17 = .ok (.aload_n 0, 1) := by decide +kernel
theorem dX4_readStatement_18 : decode cX4_readStatement 18 = .ok (.ldc 122, 2) := by decide +kernel
theorem dX4_readStatement_20 : decode cX4_readStatement 20 = .ok (.invokevirtual 85, 3) := by decide +kernel
theorem dX4_readStatement_23 : decode cX4_readStatement 23 = .ok (.ifCond .eq 34, 3) := by decide +kernel
theorem dX4_readStatement_26 : decode cX4_readStatement 26 = .ok (.aload_n 0, 1) := by decide +kernel
theorem dX4_readStatement_27 : decode cX4_readStatement 27 = .ok (.aload_n 0, 1) := by decide +kernel
theorem dX4_readStatement_28 : decode cX4_readStatement 28 = .ok (.getfield 41, 3) := by decide +kernel
theorem dX4_readStatement_31 : decode cX4_readStatement 31 = .ok (.invokevirtual 124, 3) := by decide +kernel
theorem dX4_readStatement_34 : decode cX4_readStatement 34 = .ok (.aload_n 0, 1) := by decide +kernel
theorem dX4_readStatement_35 : decode cX4_readStatement 35 = .ok (.iconst 1, 1) := by decide +kernel
theorem dX4_readStatement_36 : decode cX4_readStatement 36 = .ok (.putfield 41, 3) := by decide +kernel
theorem dX4_readStatement_39 : decode cX4_readStatement 39 = .ok (.aload_n 0, 1) := by decide +kernel
theorem dX4_readStatement_40 : decode cX4_readStatement 40 = .ok (.invokevirtual 50, 3) := by decide +kernel
theorem dX4_readStatement_43 : decode cX4_readStatement 43 = .ok (.aload_n 1, 1) := by decide +kernel
theorem dX4_readStatement_44 : decode cX4_readStatement 44 = .ok (.aload_n 0, 1) := by decide +kernel
theorem dX4_readStatement_45 : decode cX4_readStatement 45 = .ok (.iconst 0, 1) := by decide +kernel
theorem dX4_readStatement_46 : decode cX4_readStatement 46 = .ok (.bipush 99, 2) := by decide +kernel
theorem dX4_readStatement_48 : decode cX4_readStatement 48 = .ok (.invokevirtual 109, 3) := by decide +kernel
theorem dX4_readStatement_51 : decode cX4_readStatement 51 = .ok (.putfield 128, 3) := by decide +kernel
theorem dX4_readStatement_54 : decode cX4_readStatement 54 = .ok (.goto 141, 3) := by decide +kernel
theorem dX4_readStatement_57 : decode cX4_readStatement 57 = .ok (.aload_n 0, 1) := by decide +kernel
theorem dX4_readStatement_58 : decode cX4_readStatement 58 = .ok (.ldc 130, 2) := by decide +kernel
theorem dX4_readStatement_60 : decode cX4_readStatement 60 = .ok (.invokevirtual 85, 3) := by decide +kernel
theorem dX4_readStatement_63 : decode cX4_readStatement 63 = .ok (.ifCond .eq 34, 3) := by decide +kernel
theorem dX4_readStatement_66 : decode cX4_readStatement 66 = .ok (.aload_n 0, 1) := by decide +kernel
theorem dX4_readStatement_67 : decode cX4_readStatement 67 = .ok (.aload_n 0, 1) := by decide +kernel
theorem dX4_readStatement_68 : decode cX4_readStatement 68 = .ok (.getfield 44, 3) := by decide +kernel
theorem dX4_readStatement_71 : decode cX4_readStatement 71 = .ok (.invokevirtual 124, 3) := by decide +kernel
theorem dX4_readStatement_74 : decode cX4_readStatement 74 = .ok (.aload_n 0, 1) := by decide +kernel
theorem dX4_readStatement_75 : decode cX4_readStatement 75 = .ok (.iconst 1, 1) := by decide +kernel
theorem dX4_readStatement_76 : decode cX4_readStatement 76 = .ok (.putfield 44, 3) := by decide +kernel
theorem dX4_readStatement_79 : decode cX4_readStatement 79 = .ok (.aload_n 0, 1) := by decide +kernel
theorem dX4_readStatement_80 : decode cX4_readStatement 80 = .ok (.invokevirtual 50, 3) := by decide +kernel
theorem dX4_readStatement_83 : decode cX4_readStatement 83 = .ok (.aload_n 1, 1) := by decide +kernel
theorem dX4_readStatement_84 : decode cX4_readStatement 84 = .ok (.aload_n 0, 1) := by decide +kernel
theorem dX4_readStatement_85 : decode cX4_readStatement 85 = .ok (.iconst 0, 1) := by decide +kernel
theorem dX4_readStatement_86 : decode cX4_readStatement 86 = .ok (.bipush 99, 2) := by decide +kernel
theorem dX4_readStatement_88 : decode cX4_readStatement 88 = .ok (.invokevirtual 109, 3) := by decide +kernel
theorem dX4_readStatement_91 : decode cX4_readStatement 91 = .ok (.putfield 132, 3) := by decide +kernel
theorem dX4_readStatement_94 : decode cX4_readStatement 94 = .ok (.goto 101, 3) := by decide +kernel
theorem dX4_readStatement_97 : decode cX4_readStatement 97 = .ok (.aload_n 0, 1) := by decide +kernel
theorem dX4_readStatement_98 : decode cX4_readStatement 98 = .ok (.ldc 134, 2) := by decide +kernel
theorem dX4_readStatement_100 : decode cX4_readStatement 100 = .ok (.invokevirtual 85, 3) := by decide +kernel
theorem dX4_readStatement_103 : decode cX4_readStatement 103 = .ok (.ifCond .eq 31, 3) := by decide +kernel
theorem dX4_readStatement_106 : decode cX4_readStatement 106 = .ok (.aload_n 0, 1) := by decide +kernel
theorem dX4_readStatement_107 : decode cX4_readStatement 107 = .ok (.invokevirtual 50, 3) := by decide +kernel
theorem dX4_readStatement_110 : decode cX4_readStatement 110 = .ok (.aload_n 0, 1) := by decide +kernel
theorem dX4_readStatement_111 : decode cX4_readStatement 111 = .ok (.iconst 1, 1) := by decide +kernel
theorem dX4_readStatement_112 : decode cX4_readStatement 112 = .ok (.bipush 6, 2) := by decide +kernel
theorem dX4_readStatement_114 : decode cX4_readStatement 114 = .ok (.invokevirtual 109, 3) := by decide +kernel
theorem dX4_readStatement_117 : decode cX4_readStatement 117 = .ok (.istore_n 2, 1) := by decide +kernel
theorem dX4_readStatement_118 : decode cX4_readStatement 118 = .ok (.aload_n 1, 1) := by decide +kernel
theorem dX4_readStatement_119 : decode cX4_readStatement 119 = .ok (.getfield 136, 3) := by decide +kernel
theorem dX4_readStatement_122 : decode cX4_readStatement 122 = .ok (.iload_n 2, 1) := by decide +kernel
theorem dX4_readStatement_123 : decode cX4_readStatement 123 = .ok (.aload_n 0, 1) := by decide +kernel
theorem dX4_readStatement_124 : decode cX4_readStatement 124 = .ok (.iconst 0, 1) := by decide +kernel
theorem dX4_readStatement_125 : decode cX4_readStatement 125 = .ok (.bipush 99, 2) := by decide +kernel
theorem dX4_readStatement_127 : decode cX4_readStatement 127 = .ok (.invokevirtual 109, 3) := by decide +kernel
theorem dX4_readStatement_130 : decode cX4_readStatement 130 = .ok (.iastore, 1) := by decide +kernel
theorem dX4_readStatement_131 : decode cX4_readStatement 131 = .ok (.goto 64, 3) := by decide +kernel
theorem dX4_readStatement_134 : decode cX4_readStatement 134 = .ok (.aload_n 0, 1) := by decide +kernel
theorem dX4_readStatement_135 : decode cX4_readStatement 135 = .ok (.ldc 140, 2) := by decide +kernel
theorem dX4_readStatement_137 : decode cX4_readStatement 137 = .ok (.invokevirtual 85, 3) := by decide +kernel
theorem dX4_readStatement_140 : decode cX4_readStatement 140 = .ok (.ifCond .eq 11, 3) := by decide +kernel
theorem dX4_readStatement_143 : decode cX4_readStatement 143 = .ok (.aload_n 0, 1) := by decide +kernel
theorem dX4_readStatement_144 : decode cX4_readStatement 144 = .ok (.aload_n 1, 1) := by decide +kernel
theorem dX4_readStatement_145 : decode cX4_readStatement 145 = .ok (.invokevirtual 142, 3) := by decide +kernel
theorem dX4_readStatement_148 : decode cX4_readStatement 148 = .ok (.goto 47, 3) := by decide +kernel
theorem dX4_readStatement_151 : decode cX4_readStatement 151 = .ok (.aload_n 0, 1) := by decide +kernel
theorem dX4_readStatement_152 : decode cX4_readStatement 152 = .ok (.ldc 145, 2) := by decide +kernel
theorem dX4_readStatement_154 : decode cX4_readStatement 154 = .ok (.invokevirtual 85, 3) := by decide +kernel
theorem dX4_readStatement_157 : decode cX4_readStatement 157 = .ok (.ifCond .eq 11, 3) := by decide +kernel
theorem dX4_readStatement_160 : decode cX4_readStatement 160 = .ok (.aload_n 0, 1) := by decide +kernel
theorem dX4_readStatement_161 : decode cX4_readStatement 161 = .ok (.aload_n 1, 1) := by decide +kernel
theorem dX4_readStatement_162 : decode cX4_readStatement 162 = .ok (.invokevirtual 147, 3) := by decide +kernel
theorem dX4_readStatement_165 : decode cX4_readStatement 165 = .ok (.goto 30, 3) := by decide +kernel
theorem dX4_readStatement_168 : decode cX4_readStatement 168 = .ok (.aload_n 0, 1) := by decide +kernel
theorem dX4_readStatement_169 : decode cX4_readStatement 169 = .ok (.ldc 150, 2) := by decide +kernel
theorem dX4_readStatement_171 : decode cX4_readStatement 171 = .ok (.invokevirtual 85, 3) := by decide +kernel
theorem dX4_readStatement_174 : decode cX4_readStatement 174 = .ok (.ifCond .eq 11, 3) := by decide +kernel
theorem dX4_readStatement_177 : decode cX4_readStatement 177 = .ok (.aload_n 0, 1) := by decide +kernel
theorem dX4_readStatement_178 : decode cX4_readStatement 178 = .ok (.aload_n 1, 1) := by decide +kernel
theorem dX4_readStatement_179 : decode cX4_readStatement 179 = .ok (.invokevirtual 152, 3) := by decide +kernel
theorem dX4_readStatement_182 : decode cX4_readStatement 182 = .ok (.goto 13, 3) := by decide +kernel
theorem dX4_readStatement_185 : decode cX4_readStatement 185 = .ok (.aload_n 0, 1) := by decide +kernel
theorem dX4_readStatement_186 : decode cX4_readStatement 186 = .ok (.bipush (-2), 2) := by decide +kernel
theorem dX4_readStatement_188 : decode cX4_readStatement 188 = .ok (.aload_n 0, 1) := by decide +kernel
theorem dX4_readStatement_189 : decode cX4_readStatement 189 = .ok (.getfield 66, 3) := by decide +kernel
theorem dX4_readStatement_192 : decode cX4_readStatement 192 = .ok (.invokevirtual 89, 3) := by decide +kernel
theorem dX4_readStatement_195 : decode cX4_readStatement 195 = .ok (.return_, 1) := by decide +kernel
theorem dX4_refuseIf_0 : decode cX4_refuseIf 0 = .ok (.iload_n 1, 1) := by decide +kernel
theorem dX4_refuseIf_1 : decode cX4_refuseIf 1 = .ok (.ifCond .eq 13, 3) := by decide +kernel
theorem dX4_refuseIf_4 : decode cX4_refuseIf 4 = .ok (.aload_n 0, 1) := by decide +kernel
theorem dX4_refuseIf_5 : decode cX4_refuseIf 5 = .ok (.bipush (-2), 2) := by decide +kernel
theorem dX4_refuseIf_7 : decode cX4_refuseIf 7 = .ok (.aload_n 0, 1) := by decide +kernel
theorem dX4_refuseIf_8 : decode cX4_refuseIf 8 = .ok (.getfield 66, 3) := by decide +kernel
theorem dX4_refuseIf_11 : decode cX4_refuseIf 11 = .ok (.invokevirtual 89, 3) := by decide +kernel
theorem dX4_refuseIf_14 : decode cX4_refuseIf 14 = .ok (.return_, 1) := by decide +kernel
theorem dX4_readReach_0 : decode cX4_readReach 0 = .ok (.aload_n 0, 1) := by decide +kernel
theorem dX4_readReach_1 : decode cX4_readReach 1 = .ok (.aload_n 0, 1) := by decide +kernel
theorem dX4_readReach_2 : decode cX4_readReach 2 = .ok (.getfield 37, 3) := by decide +kernel
theorem dX4_readReach_5 : decode cX4_readReach 5 = .ok (.ifCond .ne 10, 3) := by decide +kernel
theorem dX4_readReach_8 : decode cX4_readReach 8 = .ok (.aload_n 0, 1) := by decide +kernel
theorem dX4_readReach_9 : decode cX4_readReach 9 = .ok (.getfield 47, 3) := by decide +kernel
theorem dX4_readReach_12 : decode cX4_readReach 12 = .ok (.ifCond .eq 7, 3) := by decide +kernel
theorem dX4_readReach_15 : decode cX4_readReach 15 = .ok (.iconst 1, 1) := by decide +kernel
theorem dX4_readReach_16 : decode cX4_readReach 16 = .ok (.goto 4, 3) := by decide +kernel
theorem dX4_readReach_19 : decode cX4_readReach 19 = .ok (.iconst 0, 1) := by decide +kernel
theorem dX4_readReach_20 : decode cX4_readReach 20 = .ok (.invokevirtual 124, 3) := by decide +kernel
theorem dX4_readReach_23 : decode cX4_readReach 23 = .ok (.aload_n 0, 1) := by decide +kernel
theorem dX4_readReach_24 : decode cX4_readReach 24 = .ok (.iconst 1, 1) := by decide +kernel
theorem dX4_readReach_25 : decode cX4_readReach 25 = .ok (.putfield 37, 3) := by decide +kernel
theorem dX4_readReach_28 : decode cX4_readReach 28 = .ok (.aload_n 0, 1) := by decide +kernel
theorem dX4_readReach_29 : decode cX4_readReach 29 = .ok (.invokevirtual 50, 3) := by decide +kernel
theorem dX4_readReach_32 : decode cX4_readReach 32 = .ok (.iconst 0, 1) := by decide +kernel
theorem dX4_readReach_33 : decode cX4_readReach 33 = .ok (.istore_n 2, 1) := by decide +kernel
theorem dX4_readReach_34 : decode cX4_readReach 34 = .ok (.iload_n 2, 1) := by decide +kernel
theorem dX4_readReach_35 : decode cX4_readReach 35 = .ok (.aload_n 1, 1) := by decide +kernel
theorem dX4_readReach_36 : decode cX4_readReach 36 = .ok (.getfield 155, 3) := by decide +kernel
theorem dX4_readReach_39 : decode cX4_readReach 39 = .ok (.if_icmp .ge 24, 3) := by decide +kernel
theorem dX4_readReach_42 : decode cX4_readReach 42 = .ok (.aload_n 1, 1) := by decide +kernel
theorem dX4_readReach_43 : decode cX4_readReach 43 = .ok (.getfield 158, 3) := by decide +kernel
theorem dX4_readReach_46 : decode cX4_readReach 46 = .ok (.iload_n 2, 1) := by decide +kernel
theorem dX4_readReach_47 : decode cX4_readReach 47 = .ok (.aload_n 0, 1) := by decide +kernel
theorem dX4_readReach_48 : decode cX4_readReach 48 = .ok (.iconst 0, 1) := by decide +kernel
theorem dX4_readReach_49 : decode cX4_readReach 49 = .ok (.aload_n 1, 1) := by decide +kernel
theorem dX4_readReach_50 : decode cX4_readReach 50 = .ok (.invokevirtual 161, 3) := by decide +kernel
theorem dX4_readReach_53 : decode cX4_readReach 53 = .ok (.invokevirtual 109, 3) := by decide +kernel
theorem dX4_readReach_56 : decode cX4_readReach 56 = .ok (.iastore, 1) := by decide +kernel
theorem dX4_readReach_57 : decode cX4_readReach 57 = .ok (.iinc 2 1, 3) := by decide +kernel
theorem dX4_readReach_60 : decode cX4_readReach 60 = .ok (.goto (-26), 3) := by decide +kernel
theorem dX4_readReach_63 : decode cX4_readReach 63 = .ok (.return_, 1) := by decide +kernel
theorem dX4_readMix_0 : decode cX4_readMix 0 = .ok (.aload_n 0, 1) := by decide +kernel
theorem dX4_readMix_1 : decode cX4_readMix 1 = .ok (.invokevirtual 50, 3) := by decide +kernel
theorem dX4_readMix_4 : decode cX4_readMix 4 = .ok (.aload_n 0, 1) := by decide +kernel
theorem dX4_readMix_5 : decode cX4_readMix 5 = .ok (.iconst 1, 1) := by decide +kernel
theorem dX4_readMix_6 : decode cX4_readMix 6 = .ok (.bipush 6, 2) := by decide +kernel
theorem dX4_readMix_8 : decode cX4_readMix 8 = .ok (.invokevirtual 109, 3) := by decide +kernel
theorem dX4_readMix_11 : decode cX4_readMix 11 = .ok (.istore_n 2, 1) := by decide +kernel
theorem dX4_readMix_12 : decode cX4_readMix 12 = .ok (.aload_n 0, 1) := by decide +kernel
theorem dX4_readMix_13 : decode cX4_readMix 13 = .ok (.iconst 1, 1) := by decide +kernel
theorem dX4_readMix_14 : decode cX4_readMix 14 = .ok (.bipush 6, 2) := by decide +kernel
theorem dX4_readMix_16 : decode cX4_readMix 16 = .ok (.invokevirtual 109, 3) := by decide +kernel
theorem dX4_readMix_19 : decode cX4_readMix 19 = .ok (.istore_n 3, 1) := by decide +kernel
theorem dX4_readMix_20 : decode cX4_readMix 20 = .ok (.iload_n 2, 1) := by decide +kernel
theorem dX4_readMix_21 : decode cX4_readMix 21 = .ok (.iload_n 3, 1) := by decide +kernel
theorem dX4_readMix_22 : decode cX4_readMix 22 = .ok (.if_icmp .ne 16, 3) := by decide +kernel
theorem dX4_readMix_25 : decode cX4_readMix 25 = .ok (.aload_n 0, 1) := by decide +kernel
theorem dX4_readMix_26 : decode cX4_readMix 26 = .ok (.bipush (-3), 2) := by decide +kernel
theorem dX4_readMix_28 : decode cX4_readMix 28 = .ok (.aload_n 0, 1) := by decide +kernel
theorem dX4_readMix_29 : decode cX4_readMix 29 = .ok (.getfield 93, 3) := by decide +kernel
theorem dX4_readMix_32 : decode cX4_readMix 32 = .ok (.invokevirtual 89, 3) := by decide +kernel
theorem dX4_readMix_35 : decode cX4_readMix 35 = .ok (.goto 22, 3) := by decide +kernel
theorem dX4_readMix_38 : decode cX4_readMix 38 = .ok (.aload_n 1, 1) := by decide +kernel
theorem dX4_readMix_39 : decode cX4_readMix 39 = .ok (.iload_n 2, 1) := by decide +kernel
theorem dX4_readMix_40 : decode cX4_readMix 40 = .ok (.iload_n 3, 1) := by decide +kernel
theorem dX4_readMix_41 : decode cX4_readMix 41 = .ok (.invokevirtual 164, 3) := by decide +kernel
theorem dX4_readMix_44 : decode cX4_readMix 44 = .ok (.ifCond .eq 13, 3) := by decide +kernel
theorem dX4_readMix_47 : decode cX4_readMix 47 = .ok (.aload_n 0, 1) := by decide +kernel
theorem dX4_readMix_48 : decode cX4_readMix 48 = .ok (.bipush (-4), 2) := by decide +kernel
theorem dX4_readMix_50 : decode cX4_readMix 50 = .ok (.aload_n 0, 1) := by decide +kernel
theorem dX4_readMix_51 : decode cX4_readMix 51 = .ok (.getfield 93, 3) := by decide +kernel
theorem dX4_readMix_54 : decode cX4_readMix 54 = .ok (.invokevirtual 89, 3) := by decide +kernel
theorem dX4_readMix_57 : decode cX4_readMix 57 = .ok (.aload_n 1, 1) := by decide +kernel
theorem dX4_readMix_58 : decode cX4_readMix 58 = .ok (.iload_n 2, 1) := by decide +kernel
theorem dX4_readMix_59 : decode cX4_readMix 59 = .ok (.iload_n 3, 1) := by decide +kernel
theorem dX4_readMix_60 : decode cX4_readMix 60 = .ok (.aload_n 0, 1) := by decide +kernel
theorem dX4_readMix_61 : decode cX4_readMix 61 = .ok (.iconst 1, 1) := by decide +kernel
theorem dX4_readMix_62 : decode cX4_readMix 62 = .ok (.bipush 6, 2) := by decide +kernel
theorem dX4_readMix_64 : decode cX4_readMix 64 = .ok (.invokevirtual 109, 3) := by decide +kernel
theorem dX4_readMix_67 : decode cX4_readMix 67 = .ok (.invokevirtual 167, 3) := by decide +kernel
theorem dX4_readMix_70 : decode cX4_readMix 70 = .ok (.return_, 1) := by decide +kernel
theorem dX4_readSpar_0 : decode cX4_readSpar 0 = .ok (.aload_n 0, 1) := by decide +kernel
theorem dX4_readSpar_1 : decode cX4_readSpar 1 = .ok (.iconst 1, 1) := by decide +kernel
theorem dX4_readSpar_2 : decode cX4_readSpar 2 = .ok (.putfield 47, 3) := by decide +kernel
theorem dX4_readSpar_5 : decode cX4_readSpar 5 = .ok (.aload_n 0, 1) := by decide +kernel
theorem dX4_readSpar_6 : decode cX4_readSpar 6 = .ok (.invokevirtual 50, 3) := by decide +kernel
theorem dX4_readSpar_9 : decode cX4_readSpar 9 = .ok (.aload_n 0, 1) := by decide +kernel
theorem dX4_readSpar_10 : decode cX4_readSpar 10 = .ok (.ldc 171, 2) := by decide +kernel
theorem dX4_readSpar_12 : decode cX4_readSpar 12 = .ok (.invokevirtual 85, 3) := by decide +kernel
theorem dX4_readSpar_15 : decode cX4_readSpar 15 = .ok (.istore_n 2, 1) := by decide +kernel
theorem dX4_readSpar_16 : decode cX4_readSpar 16 = .ok (.iload_n 2, 1) := by decide +kernel
theorem dX4_readSpar_17 : decode cX4_readSpar 17 = .ok (.ifCond .eq 10, 3) := by decide +kernel
theorem dX4_readSpar_20 : decode cX4_readSpar 20 = .ok (.aload_n 0, 1) := by decide +kernel
theorem dX4_readSpar_21 : decode cX4_readSpar 21 = .ok (.invokevirtual 50, 3) := by decide +kernel
theorem dX4_readSpar_24 : decode cX4_readSpar 24 = .ok (.goto 9, 3) := by decide +kernel
theorem dX4_readSpar_27 : decode cX4_readSpar 27 = .ok (.aload_n 0, 1) := by decide +kernel
theorem dX4_readSpar_28 : decode cX4_readSpar 28 = .ok (.ldc 173, 2) := by decide +kernel
theorem dX4_readSpar_30 : decode cX4_readSpar 30 = .ok (.invokevirtual 105, 3) := by decide +kernel
theorem dX4_readSpar_33 : decode cX4_readSpar 33 = .ok (.aload_n 0, 1) := by decide +kernel
theorem dX4_readSpar_34 : decode cX4_readSpar 34 = .ok (.iconst 0, 1) := by decide +kernel
theorem dX4_readSpar_35 : decode cX4_readSpar 35 = .ok (.aload_n 1, 1) := by decide +kernel
theorem dX4_readSpar_36 : decode cX4_readSpar 36 = .ok (.getfield 175, 3) := by decide +kernel
theorem dX4_readSpar_39 : decode cX4_readSpar 39 = .ok (.iconst 1, 1) := by decide +kernel
theorem dX4_readSpar_40 : decode cX4_readSpar 40 = .ok (.isub, 1) := by decide +kernel
theorem dX4_readSpar_41 : decode cX4_readSpar 41 = .ok (.invokevirtual 109, 3) := by decide +kernel
theorem dX4_readSpar_44 : decode cX4_readSpar 44 = .ok (.istore_n 3, 1) := by decide +kernel
theorem dX4_readSpar_45 : decode cX4_readSpar 45 = .ok (.aload_n 0, 1) := by decide +kernel
theorem dX4_readSpar_46 : decode cX4_readSpar 46 = .ok (.iconst 0, 1) := by decide +kernel
theorem dX4_readSpar_47 : decode cX4_readSpar 47 = .ok (.aload_n 1, 1) := by decide +kernel
theorem dX4_readSpar_48 : decode cX4_readSpar 48 = .ok (.getfield 155, 3) := by decide +kernel
theorem dX4_readSpar_51 : decode cX4_readSpar 51 = .ok (.iconst 1, 1) := by decide +kernel
theorem dX4_readSpar_52 : decode cX4_readSpar 52 = .ok (.isub, 1) := by decide +kernel
theorem dX4_readSpar_53 : decode cX4_readSpar 53 = .ok (.invokevirtual 109, 3) := by decide +kernel
theorem dX4_readSpar_56 : decode cX4_readSpar 56 = .ok (.istore 4, 2) := by decide +kernel
theorem dX4_readSpar_58 : decode cX4_readSpar 58 = .ok (.aload_n 0, 1) := by decide +kernel
theorem dX4_readSpar_59 : decode cX4_readSpar 59 = .ok (.iconst 1, 1) := by decide +kernel
theorem dX4_readSpar_60 : decode cX4_readSpar 60 = .ok (.bipush 15, 2) := by decide +kernel
theorem dX4_readSpar_62 : decode cX4_readSpar 62 = .ok (.invokevirtual 109, 3) := by decide +kernel
theorem dX4_readSpar_65 : decode cX4_readSpar 65 = .ok (.istore 5, 2) := by decide +kernel
theorem dX4_readSpar_67 : decode cX4_readSpar 67 = .ok (.iconst 0, 1) := by decide +kernel
theorem dX4_readSpar_68 : decode cX4_readSpar 68 = .ok (.istore 6, 2) := by decide +kernel
theorem dX4_readSpar_70 : decode cX4_readSpar 70 = .ok (.iload 6, 2) := by decide +kernel
theorem dX4_readSpar_72 : decode cX4_readSpar 72 = .ok (.iload 5, 2) := by decide +kernel
theorem dX4_readSpar_74 : decode cX4_readSpar 74 = .ok (.if_icmp .ge 64, 3) := by decide +kernel
theorem dX4_readSpar_77 : decode cX4_readSpar 77 = .ok (.iload_n 2, 1) := by decide +kernel
theorem dX4_readSpar_78 : decode cX4_readSpar 78 = .ok (.ifCond .eq 7, 3) := by decide +kernel
theorem dX4_readSpar_81 : decode cX4_readSpar 81 = .ok (.iload_n 3, 1) := by decide +kernel
theorem dX4_readSpar_82 : decode cX4_readSpar 82 = .ok (.goto 7, 3) := by decide +kernel
theorem dX4_readSpar_85 : decode cX4_readSpar 85 = .ok (.iload_n 3, 1) := by decide +kernel
theorem dX4_readSpar_86 : decode cX4_readSpar 86 = .ok (.iload 6, 2) := by decide +kernel
theorem dX4_readSpar_88 : decode cX4_readSpar 88 = .ok (.iadd, 1) := by decide +kernel
theorem dX4_readSpar_89 : decode cX4_readSpar 89 = .ok (.istore 7, 2) := by decide +kernel
theorem dX4_readSpar_91 : decode cX4_readSpar 91 = .ok (.iload_n 2, 1) := by decide +kernel
theorem dX4_readSpar_92 : decode cX4_readSpar 92 = .ok (.ifCond .eq 11, 3) := by decide +kernel
theorem dX4_readSpar_95 : decode cX4_readSpar 95 = .ok (.iload 4, 2) := by decide +kernel
theorem dX4_readSpar_97 : decode cX4_readSpar 97 = .ok (.iload 6, 2) := by decide +kernel
theorem dX4_readSpar_99 : decode cX4_readSpar 99 = .ok (.iadd, 1) := by decide +kernel
theorem dX4_readSpar_100 : decode cX4_readSpar 100 = .ok (.goto 5, 3) := by decide +kernel
theorem dX4_readSpar_103 : decode cX4_readSpar 103 = .ok (.iload 4, 2) := by decide +kernel
theorem dX4_readSpar_105 : decode cX4_readSpar 105 = .ok (.istore 8, 2) := by decide +kernel
theorem dX4_readSpar_107 : decode cX4_readSpar 107 = .ok (.aload_n 1, 1) := by decide +kernel
theorem dX4_readSpar_108 : decode cX4_readSpar 108 = .ok (.iload 7, 2) := by decide +kernel
theorem dX4_readSpar_110 : decode cX4_readSpar 110 = .ok (.iload 8, 2) := by decide +kernel
theorem dX4_readSpar_112 : decode cX4_readSpar 112 = .ok (.invokevirtual 178, 3) := by decide +kernel
theorem dX4_readSpar_115 : decode cX4_readSpar 115 = .ok (.ifCond .eq 17, 3) := by decide +kernel
theorem dX4_readSpar_118 : decode cX4_readSpar 118 = .ok (.aload_n 1, 1) := by decide +kernel
theorem dX4_readSpar_119 : decode cX4_readSpar 119 = .ok (.getfield 182, 3) := by decide +kernel
theorem dX4_readSpar_122 : decode cX4_readSpar 122 = .ok (.aload_n 1, 1) := by decide +kernel
theorem dX4_readSpar_123 : decode cX4_readSpar 123 = .ok (.iload 7, 2) := by decide +kernel
theorem dX4_readSpar_125 : decode cX4_readSpar 125 = .ok (.iload 8, 2) := by decide +kernel
theorem dX4_readSpar_127 : decode cX4_readSpar 127 = .ok (.invokevirtual 185, 3) := by decide +kernel
theorem dX4_readSpar_130 : decode cX4_readSpar 130 = .ok (.iconst 1, 1) := by decide +kernel
theorem dX4_readSpar_131 : decode cX4_readSpar 131 = .ok (.iastore, 1) := by decide +kernel
theorem dX4_readSpar_132 : decode cX4_readSpar 132 = .ok (.iinc 6 1, 3) := by decide +kernel
theorem dX4_readSpar_135 : decode cX4_readSpar 135 = .ok (.goto (-65), 3) := by decide +kernel
theorem dX4_readSpar_138 : decode cX4_readSpar 138 = .ok (.return_, 1) := by decide +kernel
theorem dX4_readPattern_0 : decode cX4_readPattern 0 = .ok (.aload_n 1, 1) := by decide +kernel
theorem dX4_readPattern_1 : decode cX4_readPattern 1 = .ok (.getfield 188, 3) := by decide +kernel
theorem dX4_readPattern_4 : decode cX4_readPattern 4 = .ok (.iconst 3, 1) := by decide +kernel
theorem dX4_readPattern_5 : decode cX4_readPattern 5 = .ok (.if_icmp .lt 14, 3) := by decide +kernel
theorem dX4_readPattern_8 : decode cX4_readPattern 8 = .ok (.aload_n 0, 1) := by decide +kernel
theorem dX4_readPattern_9 : decode cX4_readPattern 9 = .ok (.bipush (-5), 2) := by decide +kernel
theorem dX4_readPattern_11 : decode cX4_readPattern 11 = .ok (.aload_n 0, 1) := by decide +kernel
theorem dX4_readPattern_12 : decode cX4_readPattern 12 = .ok (.getfield 66, 3) := by decide +kernel
theorem dX4_readPattern_15 : decode cX4_readPattern 15 = .ok (.invokevirtual 89, 3) := by decide +kernel
theorem dX4_readPattern_18 : decode cX4_readPattern 18 = .ok (.return_, 1) := by decide +kernel
theorem dX4_readPattern_19 : decode cX4_readPattern 19 = .ok (.aload_n 1, 1) := by decide +kernel
theorem dX4_readPattern_20 : decode cX4_readPattern 20 = .ok (.getfield 188, 3) := by decide +kernel
theorem dX4_readPattern_23 : decode cX4_readPattern 23 = .ok (.istore_n 2, 1) := by decide +kernel
theorem dX4_readPattern_24 : decode cX4_readPattern 24 = .ok (.aload_n 1, 1) := by decide +kernel
theorem dX4_readPattern_25 : decode cX4_readPattern 25 = .ok (.dup, 1) := by decide +kernel
theorem dX4_readPattern_26 : decode cX4_readPattern 26 = .ok (.getfield 188, 3) := by decide +kernel
theorem dX4_readPattern_29 : decode cX4_readPattern 29 = .ok (.iconst 1, 1) := by decide +kernel
theorem dX4_readPattern_30 : decode cX4_readPattern 30 = .ok (.iadd, 1) := by decide +kernel
theorem dX4_readPattern_31 : decode cX4_readPattern 31 = .ok (.putfield 188, 3) := by decide +kernel
theorem dX4_readPattern_34 : decode cX4_readPattern 34 = .ok (.aload_n 0, 1) := by decide +kernel
theorem dX4_readPattern_35 : decode cX4_readPattern 35 = .ok (.invokevirtual 50, 3) := by decide +kernel
theorem dX4_readPattern_38 : decode cX4_readPattern 38 = .ok (.aload_n 0, 1) := by decide +kernel
theorem dX4_readPattern_39 : decode cX4_readPattern 39 = .ok (.getfield 57, 3) := by decide +kernel
theorem dX4_readPattern_42 : decode cX4_readPattern 42 = .ok (.iconst 2, 1) := by decide +kernel
theorem dX4_readPattern_43 : decode cX4_readPattern 43 = .ok (.if_icmp .eq 13, 3) := by decide +kernel
theorem dX4_readPattern_46 : decode cX4_readPattern 46 = .ok (.aload_n 0, 1) := by decide +kernel
theorem dX4_readPattern_47 : decode cX4_readPattern 47 = .ok (.bipush (-2), 2) := by decide +kernel
theorem dX4_readPattern_49 : decode cX4_readPattern 49 = .ok (.aload_n 0, 1) := by decide +kernel
theorem dX4_readPattern_50 : decode cX4_readPattern 50 = .ok (.getfield 66, 3) := by decide +kernel
theorem dX4_readPattern_53 : decode cX4_readPattern 53 = .ok (.invokevirtual 89, 3) := by decide +kernel
theorem dX4_readPattern_56 : decode cX4_readPattern 56 = .ok (.iconst 0, 1) := by decide +kernel
theorem dX4_readPattern_57 : decode cX4_readPattern 57 = .ok (.istore_n 3, 1) := by decide +kernel
theorem dX4_readPattern_58 : decode cX4_readPattern 58 = .ok (.iload_n 3, 1) := by decide +kernel
theorem dX4_readPattern_59 : decode cX4_readPattern 59 = .ok (.bipush 6, 2) := by decide +kernel
theorem dX4_readPattern_61 : decode cX4_readPattern 61 = .ok (.if_icmp .gt 49, 3) := by decide +kernel
theorem dX4_readPattern_64 : decode cX4_readPattern 64 = .ok (.aload_n 0, 1) := by decide +kernel
theorem dX4_readPattern_65 : decode cX4_readPattern 65 = .ok (.getfield 57, 3) := by decide +kernel
theorem dX4_readPattern_68 : decode cX4_readPattern 68 = .ok (.iconst 2, 1) := by decide +kernel
theorem dX4_readPattern_69 : decode cX4_readPattern 69 = .ok (.if_icmp .ne 41, 3) := by decide +kernel
theorem dX4_readPattern_72 : decode cX4_readPattern 72 = .ok (.aload_n 0, 1) := by decide +kernel
theorem dX4_readPattern_73 : decode cX4_readPattern 73 = .ok (.getfield 31, 3) := by decide +kernel
theorem dX4_readPattern_76 : decode cX4_readPattern 76 = .ok (.ifCond .ne 34, 3) := by decide +kernel
theorem dX4_readPattern_79 : decode cX4_readPattern 79 = .ok (.aload_n 0, 1) := by decide +kernel
theorem dX4_readPattern_80 : decode cX4_readPattern 80 = .ok (.aload_n 1, 1) := by decide +kernel
theorem dX4_readPattern_81 : decode cX4_readPattern 81 = .ok (.iload_n 2, 1) := by decide +kernel
theorem dX4_readPattern_82 : decode cX4_readPattern 82 = .ok (.iload_n 3, 1) := by decide +kernel
theorem dX4_readPattern_83 : decode cX4_readPattern 83 = .ok (.invokevirtual 191, 3) := by decide +kernel
theorem dX4_readPattern_86 : decode cX4_readPattern 86 = .ok (.aload_n 0, 1) := by decide +kernel
theorem dX4_readPattern_87 : decode cX4_readPattern 87 = .ok (.getfield 31, 3) := by decide +kernel
theorem dX4_readPattern_90 : decode cX4_readPattern 90 = .ok (.ifCond .ne 10, 3) := by decide +kernel
theorem dX4_readPattern_93 : decode cX4_readPattern 93 = .ok (.aload_n 0, 1) := by decide +kernel
theorem dX4_readPattern_94 : decode cX4_readPattern 94 = .ok (.aload_n 1, 1) := by decide +kernel
theorem dX4_readPattern_95 : decode cX4_readPattern 95 = .ok (.iload_n 2, 1) := by decide +kernel
theorem dX4_readPattern_96 : decode cX4_readPattern 96 = .ok (.iload_n 3, 1) := by decide +kernel
theorem dX4_readPattern_97 : decode cX4_readPattern 97 = .ok (.invokevirtual 195, 3) := by decide +kernel
theorem dX4_readPattern_100 : decode cX4_readPattern 100 = .ok (.aload_n 0, 1) := by decide +kernel
theorem dX4_readPattern_101 : decode cX4_readPattern 101 = .ok (.invokevirtual 50, 3) := by decide +kernel
theorem dX4_readPattern_104 : decode cX4_readPattern 104 = .ok (.iinc 3 1, 3) := by decide +kernel
theorem dX4_readPattern_107 : decode cX4_readPattern 107 = .ok (.goto (-49), 3) := by decide +kernel
theorem dX4_readPattern_110 : decode cX4_readPattern 110 = .ok (.return_, 1) := by decide +kernel
theorem dX4_checkLine_0 : decode cX4_checkLine 0 = .ok (.aload_n 0, 1) := by decide +kernel
theorem dX4_checkLine_1 : decode cX4_checkLine 1 = .ok (.getfield 28, 3) := by decide +kernel
theorem dX4_checkLine_4 : decode cX4_checkLine 4 = .ok (.aload_n 0, 1) := by decide +kernel
theorem dX4_checkLine_5 : decode cX4_checkLine 5 = .ok (.getfield 66, 3) := by decide +kernel
theorem dX4_checkLine_8 : decode cX4_checkLine 8 = .ok (.isub, 1) := by decide +kernel
theorem dX4_checkLine_9 : decode cX4_checkLine 9 = .ok (.istore 4, 2) := by decide +kernel
theorem dX4_checkLine_11 : decode cX4_checkLine 11 = .ok (.iload 4, 2) := by decide +kernel
theorem dX4_checkLine_13 : decode cX4_checkLine 13 = .ok (.bipush 7, 2) := by decide +kernel
theorem dX4_checkLine_15 : decode cX4_checkLine 15 = .ok (.if_icmp .gt 31, 3) := by decide +kernel
theorem dX4_checkLine_18 : decode cX4_checkLine 18 = .ok (.iload_n 3, 1) := by decide +kernel
theorem dX4_checkLine_19 : decode cX4_checkLine 19 = .ok (.ifCond .le 14, 3) := by decide +kernel
theorem dX4_checkLine_22 : decode cX4_checkLine 22 = .ok (.iload 4, 2) := by decide +kernel
theorem dX4_checkLine_24 : decode cX4_checkLine 24 = .ok (.aload_n 1, 1) := by decide +kernel
theorem dX4_checkLine_25 : decode cX4_checkLine 25 = .ok (.getfield 198, 3) := by decide +kernel
theorem dX4_checkLine_28 : decode cX4_checkLine 28 = .ok (.iload_n 2, 1) := by decide +kernel
theorem dX4_checkLine_29 : decode cX4_checkLine 29 = .ok (.iaload, 1) := by decide +kernel
theorem dX4_checkLine_30 : decode cX4_checkLine 30 = .ok (.if_icmp .ne 16, 3) := by decide +kernel
theorem dX4_checkLine_33 : decode cX4_checkLine 33 = .ok (.aload_n 0, 1) := by decide +kernel
theorem dX4_checkLine_34 : decode cX4_checkLine 34 = .ok (.aload_n 0, 1) := by decide +kernel
theorem dX4_checkLine_35 : decode cX4_checkLine 35 = .ok (.getfield 66, 3) := by decide +kernel
theorem dX4_checkLine_38 : decode cX4_checkLine 38 = .ok (.invokevirtual 100, 3) := by decide +kernel
theorem dX4_checkLine_41 : decode cX4_checkLine 41 = .ok (.bipush 6, 2) := by decide +kernel
theorem dX4_checkLine_43 : decode cX4_checkLine 43 = .ok (.if_icmp .le 13, 3) := by decide +kernel
theorem dX4_checkLine_46 : decode cX4_checkLine 46 = .ok (.aload_n 0, 1) := by decide +kernel
theorem dX4_checkLine_47 : decode cX4_checkLine 47 = .ok (.bipush (-3), 2) := by decide +kernel
theorem dX4_checkLine_49 : decode cX4_checkLine 49 = .ok (.aload_n 0, 1) := by decide +kernel
theorem dX4_checkLine_50 : decode cX4_checkLine 50 = .ok (.getfield 66, 3) := by decide +kernel
theorem dX4_checkLine_53 : decode cX4_checkLine 53 = .ok (.invokevirtual 89, 3) := by decide +kernel
theorem dX4_checkLine_56 : decode cX4_checkLine 56 = .ok (.iload_n 3, 1) := by decide +kernel
theorem dX4_checkLine_57 : decode cX4_checkLine 57 = .ok (.bipush 6, 2) := by decide +kernel
theorem dX4_checkLine_59 : decode cX4_checkLine 59 = .ok (.if_icmp .lt 13, 3) := by decide +kernel
theorem dX4_checkLine_62 : decode cX4_checkLine 62 = .ok (.aload_n 0, 1) := by decide +kernel
theorem dX4_checkLine_63 : decode cX4_checkLine 63 = .ok (.bipush (-5), 2) := by decide +kernel
theorem dX4_checkLine_65 : decode cX4_checkLine 65 = .ok (.aload_n 0, 1) := by decide +kernel
theorem dX4_checkLine_66 : decode cX4_checkLine 66 = .ok (.getfield 66, 3) := by decide +kernel
theorem dX4_checkLine_69 : decode cX4_checkLine 69 = .ok (.invokevirtual 89, 3) := by decide +kernel
theorem dX4_checkLine_72 : decode cX4_checkLine 72 = .ok (.aload_n 0, 1) := by decide +kernel
theorem dX4_checkLine_73 : decode cX4_checkLine 73 = .ok (.getfield 66, 3) := by decide +kernel
theorem dX4_checkLine_76 : decode cX4_checkLine 76 = .ok (.istore 5, 2) := by decide +kernel
theorem dX4_checkLine_78 : decode cX4_checkLine 78 = .ok (.iload 5, 2) := by decide +kernel
theorem dX4_checkLine_80 : decode cX4_checkLine 80 = .ok (.aload_n 0, 1) := by decide +kernel
theorem dX4_checkLine_81 : decode cX4_checkLine 81 = .ok (.getfield 28, 3) := by decide +kernel
theorem dX4_checkLine_84 : decode cX4_checkLine 84 = .ok (.if_icmp .ge 28, 3) := by decide +kernel
theorem dX4_checkLine_87 : decode cX4_checkLine 87 = .ok (.aload_n 0, 1) := by decide +kernel
theorem dX4_checkLine_88 : decode cX4_checkLine 88 = .ok (.iload 5, 2) := by decide +kernel
theorem dX4_checkLine_90 : decode cX4_checkLine 90 = .ok (.invokevirtual 100, 3) := by decide +kernel
theorem dX4_checkLine_93 : decode cX4_checkLine 93 = .ok (.bipush 6, 2) := by decide +kernel
theorem dX4_checkLine_95 : decode cX4_checkLine 95 = .ok (.if_icmp .le 11, 3) := by decide +kernel
theorem dX4_checkLine_98 : decode cX4_checkLine 98 = .ok (.aload_n 0, 1) := by decide +kernel
theorem dX4_checkLine_99 : decode cX4_checkLine 99 = .ok (.bipush (-3), 2) := by decide +kernel
theorem dX4_checkLine_101 : decode cX4_checkLine 101 = .ok (.iload 5, 2) := by decide +kernel
theorem dX4_checkLine_103 : decode cX4_checkLine 103 = .ok (.invokevirtual 89, 3) := by decide +kernel
theorem dX4_checkLine_106 : decode cX4_checkLine 106 = .ok (.iinc 5 1, 3) := by decide +kernel
theorem dX4_checkLine_109 : decode cX4_checkLine 109 = .ok (.goto (-31), 3) := by decide +kernel
theorem dX4_checkLine_112 : decode cX4_checkLine 112 = .ok (.return_, 1) := by decide +kernel
theorem dX4_takeLine_0 : decode cX4_takeLine 0 = .ok (.aload_n 0, 1) := by decide +kernel
theorem dX4_takeLine_1 : decode cX4_takeLine 1 = .ok (.getfield 28, 3) := by decide +kernel
theorem dX4_takeLine_4 : decode cX4_takeLine 4 = .ok (.aload_n 0, 1) := by decide +kernel
theorem dX4_takeLine_5 : decode cX4_takeLine 5 = .ok (.getfield 66, 3) := by decide +kernel
theorem dX4_takeLine_8 : decode cX4_takeLine 8 = .ok (.isub, 1) := by decide +kernel
theorem dX4_takeLine_9 : decode cX4_takeLine 9 = .ok (.istore 4, 2) := by decide +kernel
theorem dX4_takeLine_11 : decode cX4_takeLine 11 = .ok (.aload_n 1, 1) := by decide +kernel
theorem dX4_takeLine_12 : decode cX4_takeLine 12 = .ok (.getfield 198, 3) := by decide +kernel
theorem dX4_takeLine_15 : decode cX4_takeLine 15 = .ok (.iload_n 2, 1) := by decide +kernel
theorem dX4_takeLine_16 : decode cX4_takeLine 16 = .ok (.iload 4, 2) := by decide +kernel
theorem dX4_takeLine_18 : decode cX4_takeLine 18 = .ok (.iastore, 1) := by decide +kernel
theorem dX4_takeLine_19 : decode cX4_takeLine 19 = .ok (.aload_n 1, 1) := by decide +kernel
theorem dX4_takeLine_20 : decode cX4_takeLine 20 = .ok (.getfield 201, 3) := by decide +kernel
theorem dX4_takeLine_23 : decode cX4_takeLine 23 = .ok (.iload_n 2, 1) := by decide +kernel
theorem dX4_takeLine_24 : decode cX4_takeLine 24 = .ok (.iload_n 3, 1) := by decide +kernel
theorem dX4_takeLine_25 : decode cX4_takeLine 25 = .ok (.iconst 1, 1) := by decide +kernel
theorem dX4_takeLine_26 : decode cX4_takeLine 26 = .ok (.iadd, 1) := by decide +kernel
theorem dX4_takeLine_27 : decode cX4_takeLine 27 = .ok (.iastore, 1) := by decide +kernel
theorem dX4_takeLine_28 : decode cX4_takeLine 28 = .ok (.iconst 0, 1) := by decide +kernel
theorem dX4_takeLine_29 : decode cX4_takeLine 29 = .ok (.istore 5, 2) := by decide +kernel
theorem dX4_takeLine_31 : decode cX4_takeLine 31 = .ok (.iload 5, 2) := by decide +kernel
theorem dX4_takeLine_33 : decode cX4_takeLine 33 = .ok (.iload 4, 2) := by decide +kernel
theorem dX4_takeLine_35 : decode cX4_takeLine 35 = .ok (.if_icmp .ge 28, 3) := by decide +kernel
theorem dX4_takeLine_38 : decode cX4_takeLine 38 = .ok (.aload_n 1, 1) := by decide +kernel
theorem dX4_takeLine_39 : decode cX4_takeLine 39 = .ok (.iload_n 2, 1) := by decide +kernel
theorem dX4_takeLine_40 : decode cX4_takeLine 40 = .ok (.iload_n 3, 1) := by decide +kernel
theorem dX4_takeLine_41 : decode cX4_takeLine 41 = .ok (.iload 5, 2) := by decide +kernel
theorem dX4_takeLine_43 : decode cX4_takeLine 43 = .ok (.aload_n 0, 1) := by decide +kernel
theorem dX4_takeLine_44 : decode cX4_takeLine 44 = .ok (.aload_n 0, 1) := by decide +kernel
theorem dX4_takeLine_45 : decode cX4_takeLine 45 = .ok (.getfield 66, 3) := by decide +kernel
theorem dX4_takeLine_48 : decode cX4_takeLine 48 = .ok (.iload 5, 2) := by decide +kernel
theorem dX4_takeLine_50 : decode cX4_takeLine 50 = .ok (.iadd, 1) := by decide +kernel
theorem dX4_takeLine_51 : decode cX4_takeLine 51 = .ok (.invokevirtual 100, 3) := by decide +kernel
theorem dX4_takeLine_54 : decode cX4_takeLine 54 = .ok (.invokevirtual 204, 3) := by decide +kernel
theorem dX4_takeLine_57 : decode cX4_takeLine 57 = .ok (.iinc 5 1, 3) := by decide +kernel
theorem dX4_takeLine_60 : decode cX4_takeLine 60 = .ok (.goto (-29), 3) := by decide +kernel
theorem dX4_takeLine_63 : decode cX4_takeLine 63 = .ok (.return_, 1) := by decide +kernel
theorem dX5_init_0 : decode cX5_init 0 = .ok (.aload_n 0, 1) := by decide +kernel
theorem dX5_init_1 : decode cX5_init 1 = .ok (.invokespecial 3, 3) := by decide +kernel
theorem dX5_init_4 : decode cX5_init 4 = .ok (.aload_n 0, 1) := by decide +kernel
theorem dX5_init_5 : decode cX5_init 5 = .ok (.new 9, 3) := by decide +kernel
theorem dX5_init_8 : decode cX5_init 8 = .ok (.dup, 1) := by decide +kernel
theorem dX5_init_9 : decode cX5_init 9 = .ok (.invokespecial 11, 3) := by decide +kernel
theorem dX5_init_12 : decode cX5_init 12 = .ok (.putfield 12, 3) := by decide +kernel
theorem dX5_init_15 : decode cX5_init 15 = .ok (.aload_n 0, 1) := by decide +kernel
theorem dX5_init_16 : decode cX5_init 16 = .ok (.new 9, 3) := by decide +kernel
theorem dX5_init_19 : decode cX5_init 19 = .ok (.dup, 1) := by decide +kernel
theorem dX5_init_20 : decode cX5_init 20 = .ok (.invokespecial 11, 3) := by decide +kernel
theorem dX5_init_23 : decode cX5_init 23 = .ok (.putfield 16, 3) := by decide +kernel
theorem dX5_init_26 : decode cX5_init 26 = .ok (.aload_n 0, 1) := by decide +kernel
theorem dX5_init_27 : decode cX5_init 27 = .ok (.new 19, 3) := by decide +kernel
theorem dX5_init_30 : decode cX5_init 30 = .ok (.dup, 1) := by decide +kernel
theorem dX5_init_31 : decode cX5_init 31 = .ok (.invokespecial 21, 3) := by decide +kernel
theorem dX5_init_34 : decode cX5_init 34 = .ok (.putfield 22, 3) := by decide +kernel
theorem dX5_init_37 : decode cX5_init 37 = .ok (.aload_n 0, 1) := by decide +kernel
theorem dX5_init_38 : decode cX5_init 38 = .ok (.new 26, 3) := by decide +kernel
theorem dX5_init_41 : decode cX5_init 41 = .ok (.dup, 1) := by decide +kernel
theorem dX5_init_42 : decode cX5_init 42 = .ok (.invokespecial 28, 3) := by decide +kernel
theorem dX5_init_45 : decode cX5_init 45 = .ok (.putfield 29, 3) := by decide +kernel
theorem dX5_init_48 : decode cX5_init 48 = .ok (.aload_n 0, 1) := by decide +kernel
theorem dX5_init_49 : decode cX5_init 49 = .ok (.new 33, 3) := by decide +kernel
theorem dX5_init_52 : decode cX5_init 52 = .ok (.dup, 1) := by decide +kernel
theorem dX5_init_53 : decode cX5_init 53 = .ok (.invokespecial 35, 3) := by decide +kernel
theorem dX5_init_56 : decode cX5_init 56 = .ok (.putfield 36, 3) := by decide +kernel
theorem dX5_init_59 : decode cX5_init 59 = .ok (.aload_n 0, 1) := by decide +kernel
theorem dX5_init_60 : decode cX5_init 60 = .ok (.new 40, 3) := by decide +kernel
theorem dX5_init_63 : decode cX5_init 63 = .ok (.dup, 1) := by decide +kernel
theorem dX5_init_64 : decode cX5_init 64 = .ok (.invokespecial 42, 3) := by decide +kernel
theorem dX5_init_67 : decode cX5_init 67 = .ok (.putfield 43, 3) := by decide +kernel
theorem dX5_init_70 : decode cX5_init 70 = .ok (.aload_n 0, 1) := by decide +kernel
theorem dX5_init_71 : decode cX5_init 71 = .ok (.iconst (-1), 1) := by decide +kernel
theorem dX5_init_72 : decode cX5_init 72 = .ok (.putfield 47, 3) := by decide +kernel
theorem dX5_init_75 : decode cX5_init 75 = .ok (.return_, 1) := by decide +kernel
theorem dX5_append_0 : decode cX5_append 0 = .ok (.aload_n 0, 1) := by decide +kernel
theorem dX5_append_1 : decode cX5_append 1 = .ok (.getfield 43, 3) := by decide +kernel
theorem dX5_append_4 : decode cX5_append 4 = .ok (.getfield 51, 3) := by decide +kernel
theorem dX5_append_7 : decode cX5_append 7 = .ok (.sipush 580, 3) := by decide +kernel
theorem dX5_append_10 : decode cX5_append 10 = .ok (.if_icmp .le 5, 3) := by decide +kernel
theorem dX5_append_13 : decode cX5_append 13 = .ok (.iconst (-1), 1) := by decide +kernel
theorem dX5_append_14 : decode cX5_append 14 = .ok (.ireturn, 1) := by decide +kernel
theorem dX5_append_15 : decode cX5_append 15 = .ok (.aload_n 0, 1) := by decide +kernel
theorem dX5_append_16 : decode cX5_append 16 = .ok (.getfield 43, 3) := by decide +kernel
theorem dX5_append_19 : decode cX5_append 19 = .ok (.iload_n 1, 1) := by decide +kernel
theorem dX5_append_20 : decode cX5_append 20 = .ok (.invokevirtual 54, 3) := by decide +kernel
theorem dX5_append_23 : decode cX5_append 23 = .ok (.aload_n 0, 1) := by decide +kernel
theorem dX5_append_24 : decode cX5_append 24 = .ok (.getfield 43, 3) := by decide +kernel
theorem dX5_append_27 : decode cX5_append 27 = .ok (.iload_n 2, 1) := by decide +kernel
theorem dX5_append_28 : decode cX5_append 28 = .ok (.invokevirtual 54, 3) := by decide +kernel
theorem dX5_append_31 : decode cX5_append 31 = .ok (.aload_n 0, 1) := by decide +kernel
theorem dX5_append_32 : decode cX5_append 32 = .ok (.getfield 43, 3) := by decide +kernel
theorem dX5_append_35 : decode cX5_append 35 = .ok (.iload_n 3, 1) := by decide +kernel
theorem dX5_append_36 : decode cX5_append 36 = .ok (.invokevirtual 54, 3) := by decide +kernel
theorem dX5_append_39 : decode cX5_append 39 = .ok (.aload_n 0, 1) := by decide +kernel
theorem dX5_append_40 : decode cX5_append 40 = .ok (.getfield 43, 3) := by decide +kernel
theorem dX5_append_43 : decode cX5_append 43 = .ok (.iload 4, 2) := by decide +kernel
theorem dX5_append_45 : decode cX5_append 45 = .ok (.invokevirtual 54, 3) := by decide +kernel
theorem dX5_append_48 : decode cX5_append 48 = .ok (.aload_n 0, 1) := by decide +kernel
theorem dX5_append_49 : decode cX5_append 49 = .ok (.getfield 43, 3) := by decide +kernel
theorem dX5_append_52 : decode cX5_append 52 = .ok (.iload 5, 2) := by decide +kernel
theorem dX5_append_54 : decode cX5_append 54 = .ok (.invokevirtual 54, 3) := by decide +kernel
theorem dX5_append_57 : decode cX5_append 57 = .ok (.aload_n 0, 1) := by decide +kernel
theorem dX5_append_58 : decode cX5_append 58 = .ok (.getfield 43, 3) := by decide +kernel
theorem dX5_append_61 : decode cX5_append 61 = .ok (.getfield 51, 3) := by decide +kernel
theorem dX5_append_64 : decode cX5_append 64 = .ok (.ireturn, 1) := by decide +kernel
theorem dX5_load_0 : decode cX5_load 0 = .ok (.iload_n 1, 1) := by decide +kernel
theorem dX5_load_1 : decode cX5_load 1 = .ok (.iconst 0, 1) := by decide +kernel
theorem dX5_load_2 : decode cX5_load 2 = .ok (.aload_n 0, 1) := by decide +kernel
theorem dX5_load_3 : decode cX5_load 3 = .ok (.getfield 43, 3) := by decide +kernel
theorem dX5_load_6 : decode cX5_load 6 = .ok (.getfield 51, 3) := by decide +kernel
theorem dX5_load_9 : decode cX5_load 9 = .ok (.invokestatic 58, 3) := by decide +kernel
theorem dX5_load_12 : decode cX5_load 12 = .ok (.aload_n 0, 1) := by decide +kernel
theorem dX5_load_13 : decode cX5_load 13 = .ok (.getfield 43, 3) := by decide +kernel
theorem dX5_load_16 : decode cX5_load 16 = .ok (.iload_n 1, 1) := by decide +kernel
theorem dX5_load_17 : decode cX5_load 17 = .ok (.aload_n 0, 1) := by decide +kernel
theorem dX5_load_18 : decode cX5_load 18 = .ok (.getfield 16, 3) := by decide +kernel
theorem dX5_load_21 : decode cX5_load 21 = .ok (.invokevirtual 62, 3) := by decide +kernel
theorem dX5_load_24 : decode cX5_load 24 = .ok (.istore_n 2, 1) := by decide +kernel
theorem dX5_load_25 : decode cX5_load 25 = .ok (.aload_n 0, 1) := by decide +kernel
theorem dX5_load_26 : decode cX5_load 26 = .ok (.getfield 43, 3) := by decide +kernel
theorem dX5_load_29 : decode cX5_load 29 = .ok (.iconst 0, 1) := by decide +kernel
theorem dX5_load_30 : decode cX5_load 30 = .ok (.putfield 51, 3) := by decide +kernel
theorem dX5_load_33 : decode cX5_load 33 = .ok (.iload_n 2, 1) := by decide +kernel
theorem dX5_load_34 : decode cX5_load 34 = .ok (.ifCond .eq 16, 3) := by decide +kernel
theorem dX5_load_37 : decode cX5_load 37 = .ok (.aload_n 0, 1) := by decide +kernel
theorem dX5_load_38 : decode cX5_load 38 = .ok (.aload_n 0, 1) := by decide +kernel
theorem dX5_load_39 : decode cX5_load 39 = .ok (.getfield 43, 3) := by decide +kernel
theorem dX5_load_42 : decode cX5_load 42 = .ok (.getfield 66, 3) := by decide +kernel
theorem dX5_load_45 : decode cX5_load 45 = .ok (.putfield 47, 3) := by decide +kernel
theorem dX5_load_48 : decode cX5_load 48 = .ok (.iload_n 2, 1) := by decide +kernel
theorem dX5_load_49 : decode cX5_load 49 = .ok (.ireturn, 1) := by decide +kernel
theorem dX5_load_50 : decode cX5_load 50 = .ok (.aload_n 0, 1) := by decide +kernel
theorem dX5_load_51 : decode cX5_load 51 = .ok (.iconst (-1), 1) := by decide +kernel
theorem dX5_load_52 : decode cX5_load 52 = .ok (.putfield 47, 3) := by decide +kernel
theorem dX5_load_55 : decode cX5_load 55 = .ok (.aload_n 0, 1) := by decide +kernel
theorem dX5_load_56 : decode cX5_load 56 = .ok (.getfield 22, 3) := by decide +kernel
theorem dX5_load_59 : decode cX5_load 59 = .ok (.aload_n 0, 1) := by decide +kernel
theorem dX5_load_60 : decode cX5_load 60 = .ok (.getfield 12, 3) := by decide +kernel
theorem dX5_load_63 : decode cX5_load 63 = .ok (.invokevirtual 69, 3) := by decide +kernel
theorem dX5_load_66 : decode cX5_load 66 = .ok (.aload_n 0, 1) := by decide +kernel
theorem dX5_load_67 : decode cX5_load 67 = .ok (.getfield 12, 3) := by decide +kernel
theorem dX5_load_70 : decode cX5_load 70 = .ok (.aload_n 0, 1) := by decide +kernel
theorem dX5_load_71 : decode cX5_load 71 = .ok (.getfield 16, 3) := by decide +kernel
theorem dX5_load_74 : decode cX5_load 74 = .ok (.invokevirtual 73, 3) := by decide +kernel
theorem dX5_load_77 : decode cX5_load 77 = .ok (.aload_n 0, 1) := by decide +kernel
theorem dX5_load_78 : decode cX5_load 78 = .ok (.getfield 12, 3) := by decide +kernel
theorem dX5_load_81 : decode cX5_load 81 = .ok (.invokevirtual 76, 3) := by decide +kernel
theorem dX5_load_84 : decode cX5_load 84 = .ok (.ireturn, 1) := by decide +kernel
theorem dX5_errorOffset_0 : decode cX5_errorOffset 0 = .ok (.aload_n 0, 1) := by decide +kernel
theorem dX5_errorOffset_1 : decode cX5_errorOffset 1 = .ok (.getfield 47, 3) := by decide +kernel
theorem dX5_errorOffset_4 : decode cX5_errorOffset 4 = .ok (.ireturn, 1) := by decide +kernel
theorem dX5_state_0 : decode cX5_state 0 = .ok (.iload_n 1, 1) := by decide +kernel
theorem dX5_state_1 : decode cX5_state 1 = .ok (.tableswitch 172 0 12 #[67, 75, 83, 91, 99, 107, 116, 124, 132, 140, 148, 156, 164], 67) := by decide +kernel
theorem dX5_state_68 : decode cX5_state 68 = .ok (.aload_n 0, 1) := by decide +kernel
theorem dX5_state_69 : decode cX5_state 69 = .ok (.getfield 12, 3) := by decide +kernel
theorem dX5_state_72 : decode cX5_state 72 = .ok (.getfield 80, 3) := by decide +kernel
theorem dX5_state_75 : decode cX5_state 75 = .ok (.ireturn, 1) := by decide +kernel
theorem dX5_state_76 : decode cX5_state 76 = .ok (.aload_n 0, 1) := by decide +kernel
theorem dX5_state_77 : decode cX5_state 77 = .ok (.getfield 12, 3) := by decide +kernel
theorem dX5_state_80 : decode cX5_state 80 = .ok (.getfield 83, 3) := by decide +kernel
theorem dX5_state_83 : decode cX5_state 83 = .ok (.ireturn, 1) := by decide +kernel
theorem dX5_state_84 : decode cX5_state 84 = .ok (.aload_n 0, 1) := by decide +kernel
theorem dX5_state_85 : decode cX5_state 85 = .ok (.getfield 12, 3) := by decide +kernel
theorem dX5_state_88 : decode cX5_state 88 = .ok (.getfield 86, 3) := by decide +kernel
theorem dX5_state_91 : decode cX5_state 91 = .ok (.ireturn, 1) := by decide +kernel
theorem dX5_state_92 : decode cX5_state 92 = .ok (.aload_n 0, 1) := by decide +kernel
theorem dX5_state_93 : decode cX5_state 93 = .ok (.getfield 12, 3) := by decide +kernel
theorem dX5_state_96 : decode cX5_state 96 = .ok (.invokevirtual 76, 3) := by decide +kernel
theorem dX5_state_99 : decode cX5_state 99 = .ok (.ireturn, 1) := by decide +kernel
theorem dX5_state_100 : decode cX5_state 100 = .ok (.aload_n 0, 1) := by decide +kernel
theorem dX5_state_101 : decode cX5_state 101 = .ok (.getfield 12, 3) := by decide +kernel
theorem dX5_state_104 : decode cX5_state 104 = .ok (.invokevirtual 89, 3) := by decide +kernel
theorem dX5_state_107 : decode cX5_state 107 = .ok (.ireturn, 1) := by decide +kernel
theorem dX5_state_108 : decode cX5_state 108 = .ok (.aload_n 0, 1) := by decide +kernel
theorem dX5_state_109 : decode cX5_state 109 = .ok (.getfield 12, 3) := by decide +kernel
theorem dX5_state_112 : decode cX5_state 112 = .ok (.iconst 0, 1) := by decide +kernel
theorem dX5_state_113 : decode cX5_state 113 = .ok (.invokevirtual 92, 3) := by decide +kernel
theorem dX5_state_116 : decode cX5_state 116 = .ok (.ireturn, 1) := by decide +kernel
theorem dX5_state_117 : decode cX5_state 117 = .ok (.aload_n 0, 1) := by decide +kernel
theorem dX5_state_118 : decode cX5_state 118 = .ok (.getfield 12, 3) := by decide +kernel
theorem dX5_state_121 : decode cX5_state 121 = .ok (.invokevirtual 96, 3) := by decide +kernel
theorem dX5_state_124 : decode cX5_state 124 = .ok (.ireturn, 1) := by decide +kernel
theorem dX5_state_125 : decode cX5_state 125 = .ok (.aload_n 0, 1) := by decide +kernel
theorem dX5_state_126 : decode cX5_state 126 = .ok (.getfield 12, 3) := by decide +kernel
theorem dX5_state_129 : decode cX5_state 129 = .ok (.invokevirtual 99, 3) := by decide +kernel
theorem dX5_state_132 : decode cX5_state 132 = .ok (.ireturn, 1) := by decide +kernel
theorem dX5_state_133 : decode cX5_state 133 = .ok (.aload_n 0, 1) := by decide +kernel
theorem dX5_state_134 : decode cX5_state 134 = .ok (.getfield 12, 3) := by decide +kernel
theorem dX5_state_137 : decode cX5_state 137 = .ok (.invokevirtual 102, 3) := by decide +kernel
theorem dX5_state_140 : decode cX5_state 140 = .ok (.ireturn, 1) := by decide +kernel
theorem dX5_state_141 : decode cX5_state 141 = .ok (.aload_n 0, 1) := by decide +kernel
theorem dX5_state_142 : decode cX5_state 142 = .ok (.getfield 12, 3) := by decide +kernel
theorem dX5_state_145 : decode cX5_state 145 = .ok (.invokevirtual 105, 3) := by decide +kernel
theorem dX5_state_148 : decode cX5_state 148 = .ok (.ireturn, 1) := by decide +kernel
theorem dX5_state_149 : decode cX5_state 149 = .ok (.aload_n 0, 1) := by decide +kernel
theorem dX5_state_150 : decode cX5_state 150 = .ok (.getfield 12, 3) := by decide +kernel
theorem dX5_state_153 : decode cX5_state 153 = .ok (.invokevirtual 108, 3) := by decide +kernel
theorem dX5_state_156 : decode cX5_state 156 = .ok (.ireturn, 1) := by decide +kernel
theorem dX5_state_157 : decode cX5_state 157 = .ok (.aload_n 0, 1) := by decide +kernel
theorem dX5_state_158 : decode cX5_state 158 = .ok (.getfield 12, 3) := by decide +kernel
theorem dX5_state_161 : decode cX5_state 161 = .ok (.getfield 111, 3) := by decide +kernel
theorem dX5_state_164 : decode cX5_state 164 = .ok (.ireturn, 1) := by decide +kernel
theorem dX5_state_165 : decode cX5_state 165 = .ok (.aload_n 0, 1) := by decide +kernel
theorem dX5_state_166 : decode cX5_state 166 = .ok (.getfield 12, 3) := by decide +kernel
theorem dX5_state_169 : decode cX5_state 169 = .ok (.invokevirtual 114, 3) := by decide +kernel
theorem dX5_state_172 : decode cX5_state 172 = .ok (.ireturn, 1) := by decide +kernel
theorem dX5_state_173 : decode cX5_state 173 = .ok (.new 117, 3) := by decide +kernel
theorem dX5_state_176 : decode cX5_state 176 = .ok (.dup, 1) := by decide +kernel
theorem dX5_state_177 : decode cX5_state 177 = .ok (.ldc 119, 2) := by decide +kernel
theorem dX5_state_179 : decode cX5_state 179 = .ok (.invokespecial 121, 3) := by decide +kernel
theorem dX5_state_182 : decode cX5_state 182 = .ok (.athrow, 1) := by decide +kernel
theorem dX5_cell_0 : decode cX5_cell 0 = .ok (.aload_n 0, 1) := by decide +kernel
theorem dX5_cell_1 : decode cX5_cell 1 = .ok (.iload_n 1, 1) := by decide +kernel
theorem dX5_cell_2 : decode cX5_cell 2 = .ok (.iload_n 2, 1) := by decide +kernel
theorem dX5_cell_3 : decode cX5_cell 3 = .ok (.invokevirtual 124, 3) := by decide +kernel
theorem dX5_cell_6 : decode cX5_cell 6 = .ok (.aload_n 0, 1) := by decide +kernel
theorem dX5_cell_7 : decode cX5_cell 7 = .ok (.getfield 12, 3) := by decide +kernel
theorem dX5_cell_10 : decode cX5_cell 10 = .ok (.iload_n 1, 1) := by decide +kernel
theorem dX5_cell_11 : decode cX5_cell 11 = .ok (.iload_n 2, 1) := by decide +kernel
theorem dX5_cell_12 : decode cX5_cell 12 = .ok (.invokevirtual 128, 3) := by decide +kernel
theorem dX5_cell_15 : decode cX5_cell 15 = .ok (.istore 4, 2) := by decide +kernel
theorem dX5_cell_17 : decode cX5_cell 17 = .ok (.iload_n 3, 1) := by decide +kernel
theorem dX5_cell_18 : decode cX5_cell 18 = .ok (.tableswitch 94 0 4 #[34, 45, 56, 67, 77], 34) := by decide +kernel
theorem dX5_cell_52 : decode cX5_cell 52 = .ok (.aload_n 0, 1) := by decide +kernel
theorem dX5_cell_53 : decode cX5_cell 53 = .ok (.getfield 12, 3) := by decide +kernel
theorem dX5_cell_56 : decode cX5_cell 56 = .ok (.getfield 132, 3) := by decide +kernel
theorem dX5_cell_59 : decode cX5_cell 59 = .ok (.iload 4, 2) := by decide +kernel
theorem dX5_cell_61 : decode cX5_cell 61 = .ok (.iaload, 1) := by decide +kernel
theorem dX5_cell_62 : decode cX5_cell 62 = .ok (.ireturn, 1) := by decide +kernel
theorem dX5_cell_63 : decode cX5_cell 63 = .ok (.aload_n 0, 1) := by decide +kernel
theorem dX5_cell_64 : decode cX5_cell 64 = .ok (.getfield 12, 3) := by decide +kernel
theorem dX5_cell_67 : decode cX5_cell 67 = .ok (.getfield 136, 3) := by decide +kernel
theorem dX5_cell_70 : decode cX5_cell 70 = .ok (.iload 4, 2) := by decide +kernel
theorem dX5_cell_72 : decode cX5_cell 72 = .ok (.iaload, 1) := by decide +kernel
theorem dX5_cell_73 : decode cX5_cell 73 = .ok (.ireturn, 1) := by decide +kernel
theorem dX5_cell_74 : decode cX5_cell 74 = .ok (.aload_n 0, 1) := by decide +kernel
theorem dX5_cell_75 : decode cX5_cell 75 = .ok (.getfield 12, 3) := by decide +kernel
theorem dX5_cell_78 : decode cX5_cell 78 = .ok (.getfield 139, 3) := by decide +kernel
theorem dX5_cell_81 : decode cX5_cell 81 = .ok (.iload 4, 2) := by decide +kernel
theorem dX5_cell_83 : decode cX5_cell 83 = .ok (.iaload, 1) := by decide +kernel
theorem dX5_cell_84 : decode cX5_cell 84 = .ok (.ireturn, 1) := by decide +kernel
theorem dX5_cell_85 : decode cX5_cell 85 = .ok (.aload_n 0, 1) := by decide +kernel
theorem dX5_cell_86 : decode cX5_cell 86 = .ok (.getfield 12, 3) := by decide +kernel
theorem dX5_cell_89 : decode cX5_cell 89 = .ok (.iload 4, 2) := by decide +kernel
theorem dX5_cell_91 : decode cX5_cell 91 = .ok (.invokevirtual 142, 3) := by decide +kernel
theorem dX5_cell_94 : decode cX5_cell 94 = .ok (.ireturn, 1) := by decide +kernel
theorem dX5_cell_95 : decode cX5_cell 95 = .ok (.aload_n 0, 1) := by decide +kernel
theorem dX5_cell_96 : decode cX5_cell 96 = .ok (.getfield 12, 3) := by decide +kernel
theorem dX5_cell_99 : decode cX5_cell 99 = .ok (.aload_n 0, 1) := by decide +kernel
theorem dX5_cell_100 : decode cX5_cell 100 = .ok (.getfield 12, 3) := by decide +kernel
theorem dX5_cell_103 : decode cX5_cell 103 = .ok (.iload_n 1, 1) := by decide +kernel
theorem dX5_cell_104 : decode cX5_cell 104 = .ok (.invokevirtual 145, 3) := by decide +kernel
theorem dX5_cell_107 : decode cX5_cell 107 = .ok (.iload_n 2, 1) := by decide +kernel
theorem dX5_cell_108 : decode cX5_cell 108 = .ok (.invokevirtual 128, 3) := by decide +kernel
theorem dX5_cell_111 : decode cX5_cell 111 = .ok (.ireturn, 1) := by decide +kernel
theorem dX5_cell_112 : decode cX5_cell 112 = .ok (.new 117, 3) := by decide +kernel
theorem dX5_cell_115 : decode cX5_cell 115 = .ok (.dup, 1) := by decide +kernel
theorem dX5_cell_116 : decode cX5_cell 116 = .ok (.ldc 148, 2) := by decide +kernel
theorem dX5_cell_118 : decode cX5_cell 118 = .ok (.invokespecial 121, 3) := by decide +kernel
theorem dX5_cell_121 : decode cX5_cell 121 = .ok (.athrow, 1) := by decide +kernel
theorem dX5_mix_0 : decode cX5_mix 0 = .ok (.iload_n 1, 1) := by decide +kernel
theorem dX5_mix_1 : decode cX5_mix 1 = .ok (.iconst 1, 1) := by decide +kernel
theorem dX5_mix_2 : decode cX5_mix 2 = .ok (.bipush 6, 2) := by decide +kernel
theorem dX5_mix_4 : decode cX5_mix 4 = .ok (.invokestatic 58, 3) := by decide +kernel
theorem dX5_mix_7 : decode cX5_mix 7 = .ok (.iload_n 2, 1) := by decide +kernel
theorem dX5_mix_8 : decode cX5_mix 8 = .ok (.iconst 1, 1) := by decide +kernel
theorem dX5_mix_9 : decode cX5_mix 9 = .ok (.bipush 6, 2) := by decide +kernel
theorem dX5_mix_11 : decode cX5_mix 11 = .ok (.invokestatic 58, 3) := by decide +kernel
theorem dX5_mix_14 : decode cX5_mix 14 = .ok (.aload_n 0, 1) := by decide +kernel
theorem dX5_mix_15 : decode cX5_mix 15 = .ok (.getfield 12, 3) := by decide +kernel
theorem dX5_mix_18 : decode cX5_mix 18 = .ok (.iload_n 1, 1) := by decide +kernel
theorem dX5_mix_19 : decode cX5_mix 19 = .ok (.iload_n 2, 1) := by decide +kernel
theorem dX5_mix_20 : decode cX5_mix 20 = .ok (.invokevirtual 150, 3) := by decide +kernel
theorem dX5_mix_23 : decode cX5_mix 23 = .ok (.ireturn, 1) := by decide +kernel
theorem dX5_count_0 : decode cX5_count 0 = .ok (.iload_n 1, 1) := by decide +kernel
theorem dX5_count_1 : decode cX5_count 1 = .ok (.iconst 0, 1) := by decide +kernel
theorem dX5_count_2 : decode cX5_count 2 = .ok (.bipush 6, 2) := by decide +kernel
theorem dX5_count_4 : decode cX5_count 4 = .ok (.invokestatic 58, 3) := by decide +kernel
theorem dX5_count_7 : decode cX5_count 7 = .ok (.aload_n 0, 1) := by decide +kernel
theorem dX5_count_8 : decode cX5_count 8 = .ok (.getfield 12, 3) := by decide +kernel
theorem dX5_count_11 : decode cX5_count 11 = .ok (.iload_n 1, 1) := by decide +kernel
theorem dX5_count_12 : decode cX5_count 12 = .ok (.invokevirtual 92, 3) := by decide +kernel
theorem dX5_count_15 : decode cX5_count 15 = .ok (.ireturn, 1) := by decide +kernel
theorem dX5_unlike_0 : decode cX5_unlike 0 = .ok (.aload_n 0, 1) := by decide +kernel
theorem dX5_unlike_1 : decode cX5_unlike 1 = .ok (.getfield 12, 3) := by decide +kernel
theorem dX5_unlike_4 : decode cX5_unlike 4 = .ok (.invokevirtual 153, 3) := by decide +kernel
theorem dX5_unlike_7 : decode cX5_unlike 7 = .ok (.ireturn, 1) := by decide +kernel
theorem dX5_region_0 : decode cX5_region 0 = .ok (.aload_n 0, 1) := by decide +kernel
theorem dX5_region_1 : decode cX5_region 1 = .ok (.iload_n 1, 1) := by decide +kernel
theorem dX5_region_2 : decode cX5_region 2 = .ok (.iload_n 2, 1) := by decide +kernel
theorem dX5_region_3 : decode cX5_region 3 = .ok (.invokevirtual 124, 3) := by decide +kernel
theorem dX5_region_6 : decode cX5_region 6 = .ok (.aload_n 0, 1) := by decide +kernel
theorem dX5_region_7 : decode cX5_region 7 = .ok (.getfield 36, 3) := by decide +kernel
theorem dX5_region_10 : decode cX5_region 10 = .ok (.aload_n 0, 1) := by decide +kernel
theorem dX5_region_11 : decode cX5_region 11 = .ok (.getfield 12, 3) := by decide +kernel
theorem dX5_region_14 : decode cX5_region 14 = .ok (.iload_n 1, 1) := by decide +kernel
theorem dX5_region_15 : decode cX5_region 15 = .ok (.iload_n 2, 1) := by decide +kernel
theorem dX5_region_16 : decode cX5_region 16 = .ok (.invokevirtual 156, 3) := by decide +kernel
theorem dX5_region_19 : decode cX5_region 19 = .ok (.ireturn, 1) := by decide +kernel
theorem dX5_regions_0 : decode cX5_regions 0 = .ok (.iload_n 1, 1) := by decide +kernel
theorem dX5_regions_1 : decode cX5_regions 1 = .ok (.iconst 0, 1) := by decide +kernel
theorem dX5_regions_2 : decode cX5_regions 2 = .ok (.bipush 6, 2) := by decide +kernel
theorem dX5_regions_4 : decode cX5_regions 4 = .ok (.invokestatic 58, 3) := by decide +kernel
theorem dX5_regions_7 : decode cX5_regions 7 = .ok (.aload_n 0, 1) := by decide +kernel
theorem dX5_regions_8 : decode cX5_regions 8 = .ok (.getfield 36, 3) := by decide +kernel
theorem dX5_regions_11 : decode cX5_regions 11 = .ok (.aload_n 0, 1) := by decide +kernel
theorem dX5_regions_12 : decode cX5_regions 12 = .ok (.getfield 12, 3) := by decide +kernel
theorem dX5_regions_15 : decode cX5_regions 15 = .ok (.iload_n 1, 1) := by decide +kernel
theorem dX5_regions_16 : decode cX5_regions 16 = .ok (.invokevirtual 160, 3) := by decide +kernel
theorem dX5_regions_19 : decode cX5_regions 19 = .ok (.ireturn, 1) := by decide +kernel
theorem dX5_bleeds_0 : decode cX5_bleeds 0 = .ok (.aload_n 0, 1) := by decide +kernel
theorem dX5_bleeds_1 : decode cX5_bleeds 1 = .ok (.iload_n 1, 1) := by decide +kernel
theorem dX5_bleeds_2 : decode cX5_bleeds 2 = .ok (.iload_n 2, 1) := by decide +kernel
theorem dX5_bleeds_3 : decode cX5_bleeds 3 = .ok (.invokevirtual 124, 3) := by decide +kernel
theorem dX5_bleeds_6 : decode cX5_bleeds 6 = .ok (.aload_n 0, 1) := by decide +kernel
theorem dX5_bleeds_7 : decode cX5_bleeds 7 = .ok (.getfield 12, 3) := by decide +kernel
theorem dX5_bleeds_10 : decode cX5_bleeds 10 = .ok (.iload_n 1, 1) := by decide +kernel
theorem dX5_bleeds_11 : decode cX5_bleeds 11 = .ok (.iload_n 2, 1) := by decide +kernel
theorem dX5_bleeds_12 : decode cX5_bleeds 12 = .ok (.invokevirtual 164, 3) := by decide +kernel
theorem dX5_bleeds_15 : decode cX5_bleeds 15 = .ok (.ireturn, 1) := by decide +kernel
theorem dX5_foretold_0 : decode cX5_foretold 0 = .ok (.iload_n 1, 1) := by decide +kernel
theorem dX5_foretold_1 : decode cX5_foretold 1 = .ok (.iconst 1, 1) := by decide +kernel
theorem dX5_foretold_2 : decode cX5_foretold 2 = .ok (.bipush 40, 2) := by decide +kernel
theorem dX5_foretold_4 : decode cX5_foretold 4 = .ok (.invokestatic 58, 3) := by decide +kernel
theorem dX5_foretold_7 : decode cX5_foretold 7 = .ok (.iload_n 2, 1) := by decide +kernel
theorem dX5_foretold_8 : decode cX5_foretold 8 = .ok (.iconst 0, 1) := by decide +kernel
theorem dX5_foretold_9 : decode cX5_foretold 9 = .ok (.iconst 4, 1) := by decide +kernel
theorem dX5_foretold_10 : decode cX5_foretold 10 = .ok (.invokestatic 58, 3) := by decide +kernel
theorem dX5_foretold_13 : decode cX5_foretold 13 = .ok (.aload_n 0, 1) := by decide +kernel
theorem dX5_foretold_14 : decode cX5_foretold 14 = .ok (.getfield 16, 3) := by decide +kernel
theorem dX5_foretold_17 : decode cX5_foretold 17 = .ok (.aload_n 0, 1) := by decide +kernel
theorem dX5_foretold_18 : decode cX5_foretold 18 = .ok (.getfield 12, 3) := by decide +kernel
theorem dX5_foretold_21 : decode cX5_foretold 21 = .ok (.invokevirtual 73, 3) := by decide +kernel
theorem dX5_foretold_24 : decode cX5_foretold 24 = .ok (.aload_n 0, 1) := by decide +kernel
theorem dX5_foretold_25 : decode cX5_foretold 25 = .ok (.getfield 29, 3) := by decide +kernel
theorem dX5_foretold_28 : decode cX5_foretold 28 = .ok (.aload_n 0, 1) := by decide +kernel
theorem dX5_foretold_29 : decode cX5_foretold 29 = .ok (.getfield 16, 3) := by decide +kernel
theorem dX5_foretold_32 : decode cX5_foretold 32 = .ok (.iload_n 1, 1) := by decide +kernel
theorem dX5_foretold_33 : decode cX5_foretold 33 = .ok (.invokevirtual 167, 3) := by decide +kernel
theorem dX5_foretold_36 : decode cX5_foretold 36 = .ok (.istore_n 3, 1) := by decide +kernel
theorem dX5_foretold_37 : decode cX5_foretold 37 = .ok (.iload_n 2, 1) := by decide +kernel
theorem dX5_foretold_38 : decode cX5_foretold 38 = .ok (.tableswitch 63 0 3 #[30, 38, 47, 55], 30) := by decide +kernel
theorem dX5_foretold_68 : decode cX5_foretold 68 = .ok (.aload_n 0, 1) := by decide +kernel
theorem dX5_foretold_69 : decode cX5_foretold 69 = .ok (.getfield 16, 3) := by decide +kernel
theorem dX5_foretold_72 : decode cX5_foretold 72 = .ok (.invokevirtual 105, 3) := by decide +kernel
theorem dX5_foretold_75 : decode cX5_foretold 75 = .ok (.ireturn, 1) := by decide +kernel
theorem dX5_foretold_76 : decode cX5_foretold 76 = .ok (.aload_n 0, 1) := by decide +kernel
theorem dX5_foretold_77 : decode cX5_foretold 77 = .ok (.getfield 16, 3) := by decide +kernel
theorem dX5_foretold_80 : decode cX5_foretold 80 = .ok (.iconst 0, 1) := by decide +kernel
theorem dX5_foretold_81 : decode cX5_foretold 81 = .ok (.invokevirtual 92, 3) := by decide +kernel
theorem dX5_foretold_84 : decode cX5_foretold 84 = .ok (.ireturn, 1) := by decide +kernel
theorem dX5_foretold_85 : decode cX5_foretold 85 = .ok (.aload_n 0, 1) := by decide +kernel
theorem dX5_foretold_86 : decode cX5_foretold 86 = .ok (.getfield 16, 3) := by decide +kernel
theorem dX5_foretold_89 : decode cX5_foretold 89 = .ok (.invokevirtual 153, 3) := by decide +kernel
theorem dX5_foretold_92 : decode cX5_foretold 92 = .ok (.ireturn, 1) := by decide +kernel
theorem dX5_foretold_93 : decode cX5_foretold 93 = .ok (.aload_n 0, 1) := by decide +kernel
theorem dX5_foretold_94 : decode cX5_foretold 94 = .ok (.getfield 16, 3) := by decide +kernel
theorem dX5_foretold_97 : decode cX5_foretold 97 = .ok (.invokevirtual 96, 3) := by decide +kernel
theorem dX5_foretold_100 : decode cX5_foretold 100 = .ok (.ireturn, 1) := by decide +kernel
theorem dX5_foretold_101 : decode cX5_foretold 101 = .ok (.iload_n 3, 1) := by decide +kernel
theorem dX5_foretold_102 : decode cX5_foretold 102 = .ok (.ireturn, 1) := by decide +kernel
theorem dX5_evens_0 : decode cX5_evens 0 = .ok (.iload_n 1, 1) := by decide +kernel
theorem dX5_evens_1 : decode cX5_evens 1 = .ok (.iconst 0, 1) := by decide +kernel
theorem dX5_evens_2 : decode cX5_evens 2 = .ok (.bipush 6, 2) := by decide +kernel
theorem dX5_evens_4 : decode cX5_evens 4 = .ok (.invokestatic 58, 3) := by decide +kernel
theorem dX5_evens_7 : decode cX5_evens 7 = .ok (.aload_n 0, 1) := by decide +kernel
theorem dX5_evens_8 : decode cX5_evens 8 = .ok (.getfield 12, 3) := by decide +kernel
theorem dX5_evens_11 : decode cX5_evens 11 = .ok (.invokevirtual 105, 3) := by decide +kernel
theorem dX5_evens_14 : decode cX5_evens 14 = .ok (.istore_n 2, 1) := by decide +kernel
theorem dX5_evens_15 : decode cX5_evens 15 = .ok (.iload_n 2, 1) := by decide +kernel
theorem dX5_evens_16 : decode cX5_evens 16 = .ok (.invokestatic 170, 3) := by decide +kernel
theorem dX5_evens_19 : decode cX5_evens 19 = .ok (.istore_n 3, 1) := by decide +kernel
theorem dX5_evens_20 : decode cX5_evens 20 = .ok (.iconst (-1), 1) := by decide +kernel
theorem dX5_evens_21 : decode cX5_evens 21 = .ok (.istore 4, 2) := by decide +kernel
theorem dX5_evens_23 : decode cX5_evens 23 = .ok (.iconst 0, 1) := by decide +kernel
theorem dX5_evens_24 : decode cX5_evens 24 = .ok (.istore 5, 2) := by decide +kernel
theorem dX5_evens_26 : decode cX5_evens 26 = .ok (.iload 5, 2) := by decide +kernel
theorem dX5_evens_28 : decode cX5_evens 28 = .ok (.aload_n 0, 1) := by decide +kernel
theorem dX5_evens_29 : decode cX5_evens 29 = .ok (.getfield 12, 3) := by decide +kernel
theorem dX5_evens_32 : decode cX5_evens 32 = .ok (.getfield 83, 3) := by decide +kernel
theorem dX5_evens_35 : decode cX5_evens 35 = .ok (.if_icmp .ge 115, 3) := by decide +kernel
theorem dX5_evens_38 : decode cX5_evens 38 = .ok (.aload_n 0, 1) := by decide +kernel
theorem dX5_evens_39 : decode cX5_evens 39 = .ok (.getfield 12, 3) := by decide +kernel
theorem dX5_evens_42 : decode cX5_evens 42 = .ok (.iload 5, 2) := by decide +kernel
theorem dX5_evens_44 : decode cX5_evens 44 = .ok (.invokevirtual 175, 3) := by decide +kernel
theorem dX5_evens_47 : decode cX5_evens 47 = .ok (.istore 6, 2) := by decide +kernel
theorem dX5_evens_49 : decode cX5_evens 49 = .ok (.iload 6, 2) := by decide +kernel
theorem dX5_evens_51 : decode cX5_evens 51 = .ok (.aload_n 0, 1) := by decide +kernel
theorem dX5_evens_52 : decode cX5_evens 52 = .ok (.getfield 12, 3) := by decide +kernel
theorem dX5_evens_55 : decode cX5_evens 55 = .ok (.iload 5, 2) := by decide +kernel
theorem dX5_evens_57 : decode cX5_evens 57 = .ok (.invokevirtual 178, 3) := by decide +kernel
theorem dX5_evens_60 : decode cX5_evens 60 = .ok (.if_icmp .gt 84, 3) := by decide +kernel
theorem dX5_evens_63 : decode cX5_evens 63 = .ok (.aload_n 0, 1) := by decide +kernel
theorem dX5_evens_64 : decode cX5_evens 64 = .ok (.getfield 12, 3) := by decide +kernel
theorem dX5_evens_67 : decode cX5_evens 67 = .ok (.iload 6, 2) := by decide +kernel
theorem dX5_evens_69 : decode cX5_evens 69 = .ok (.iload 5, 2) := by decide +kernel
theorem dX5_evens_71 : decode cX5_evens 71 = .ok (.invokevirtual 128, 3) := by decide +kernel
theorem dX5_evens_74 : decode cX5_evens 74 = .ok (.istore 7, 2) := by decide +kernel
theorem dX5_evens_76 : decode cX5_evens 76 = .ok (.aload_n 0, 1) := by decide +kernel
theorem dX5_evens_77 : decode cX5_evens 77 = .ok (.getfield 12, 3) := by decide +kernel
theorem dX5_evens_80 : decode cX5_evens 80 = .ok (.getfield 181, 3) := by decide +kernel
theorem dX5_evens_83 : decode cX5_evens 83 = .ok (.iload_n 1, 1) := by decide +kernel
theorem dX5_evens_84 : decode cX5_evens 84 = .ok (.iaload, 1) := by decide +kernel
theorem dX5_evens_85 : decode cX5_evens 85 = .ok (.aload_n 0, 1) := by decide +kernel
theorem dX5_evens_86 : decode cX5_evens 86 = .ok (.getfield 12, 3) := by decide +kernel
theorem dX5_evens_89 : decode cX5_evens 89 = .ok (.getfield 181, 3) := by decide +kernel
theorem dX5_evens_92 : decode cX5_evens 92 = .ok (.aload_n 0, 1) := by decide +kernel
theorem dX5_evens_93 : decode cX5_evens 93 = .ok (.getfield 12, 3) := by decide +kernel
theorem dX5_evens_96 : decode cX5_evens 96 = .ok (.getfield 132, 3) := by decide +kernel
theorem dX5_evens_99 : decode cX5_evens 99 = .ok (.iload 7, 2) := by decide +kernel
theorem dX5_evens_101 : decode cX5_evens 101 = .ok (.iaload, 1) := by decide +kernel
theorem dX5_evens_102 : decode cX5_evens 102 = .ok (.iaload, 1) := by decide +kernel
theorem dX5_evens_103 : decode cX5_evens 103 = .ok (.isub, 1) := by decide +kernel
theorem dX5_evens_104 : decode cX5_evens 104 = .ok (.istore 8, 2) := by decide +kernel
theorem dX5_evens_106 : decode cX5_evens 106 = .ok (.iload_n 2, 1) := by decide +kernel
theorem dX5_evens_107 : decode cX5_evens 107 = .ok (.aload_n 0, 1) := by decide +kernel
theorem dX5_evens_108 : decode cX5_evens 108 = .ok (.getfield 12, 3) := by decide +kernel
theorem dX5_evens_111 : decode cX5_evens 111 = .ok (.iload 6, 2) := by decide +kernel
theorem dX5_evens_113 : decode cX5_evens 113 = .ok (.invokevirtual 184, 3) := by decide +kernel
theorem dX5_evens_116 : decode cX5_evens 116 = .ok (.iload 8, 2) := by decide +kernel
theorem dX5_evens_118 : decode cX5_evens 118 = .ok (.imul, 1) := by decide +kernel
theorem dX5_evens_119 : decode cX5_evens 119 = .ok (.iadd, 1) := by decide +kernel
theorem dX5_evens_120 : decode cX5_evens 120 = .ok (.invokestatic 170, 3) := by decide +kernel
theorem dX5_evens_123 : decode cX5_evens 123 = .ok (.istore 9, 2) := by decide +kernel
theorem dX5_evens_125 : decode cX5_evens 125 = .ok (.iload 9, 2) := by decide +kernel
theorem dX5_evens_127 : decode cX5_evens 127 = .ok (.iload_n 3, 1) := by decide +kernel
theorem dX5_evens_128 : decode cX5_evens 128 = .ok (.if_icmp .ge 10, 3) := by decide +kernel
theorem dX5_evens_131 : decode cX5_evens 131 = .ok (.iload 9, 2) := by decide +kernel
theorem dX5_evens_133 : decode cX5_evens 133 = .ok (.istore_n 3, 1) := by decide +kernel
theorem dX5_evens_134 : decode cX5_evens 134 = .ok (.iload 7, 2) := by decide +kernel
theorem dX5_evens_136 : decode cX5_evens 136 = .ok (.istore 4, 2) := by decide +kernel
theorem dX5_evens_138 : decode cX5_evens 138 = .ok (.iinc 6 1, 3) := by decide +kernel
theorem dX5_evens_141 : decode cX5_evens 141 = .ok (.goto (-92), 3) := by decide +kernel
theorem dX5_evens_144 : decode cX5_evens 144 = .ok (.iinc 5 1, 3) := by decide +kernel
theorem dX5_evens_147 : decode cX5_evens 147 = .ok (.goto (-121), 3) := by decide +kernel
theorem dX5_evens_150 : decode cX5_evens 150 = .ok (.iload 4, 2) := by decide +kernel
theorem dX5_evens_152 : decode cX5_evens 152 = .ok (.ireturn, 1) := by decide +kernel
theorem dX5_pattern_0 : decode cX5_pattern 0 = .ok (.aload_n 0, 1) := by decide +kernel
theorem dX5_pattern_1 : decode cX5_pattern 1 = .ok (.iload_n 1, 1) := by decide +kernel
theorem dX5_pattern_2 : decode cX5_pattern 2 = .ok (.invokevirtual 187, 3) := by decide +kernel
theorem dX5_pattern_5 : decode cX5_pattern 5 = .ok (.iload_n 2, 1) := by decide +kernel
theorem dX5_pattern_6 : decode cX5_pattern 6 = .ok (.tableswitch 55 0 2 #[26, 36, 46], 26) := by decide +kernel
theorem dX5_pattern_32 : decode cX5_pattern 32 = .ok (.aload_n 0, 1) := by decide +kernel
theorem dX5_pattern_33 : decode cX5_pattern 33 = .ok (.getfield 12, 3) := by decide +kernel
theorem dX5_pattern_36 : decode cX5_pattern 36 = .ok (.getfield 190, 3) := by decide +kernel
theorem dX5_pattern_39 : decode cX5_pattern 39 = .ok (.iload_n 1, 1) := by decide +kernel
theorem dX5_pattern_40 : decode cX5_pattern 40 = .ok (.iaload, 1) := by decide +kernel
theorem dX5_pattern_41 : decode cX5_pattern 41 = .ok (.ireturn, 1) := by decide +kernel
theorem dX5_pattern_42 : decode cX5_pattern 42 = .ok (.aload_n 0, 1) := by decide +kernel
theorem dX5_pattern_43 : decode cX5_pattern 43 = .ok (.getfield 12, 3) := by decide +kernel
theorem dX5_pattern_46 : decode cX5_pattern 46 = .ok (.getfield 193, 3) := by decide +kernel
theorem dX5_pattern_49 : decode cX5_pattern 49 = .ok (.iload_n 1, 1) := by decide +kernel
theorem dX5_pattern_50 : decode cX5_pattern 50 = .ok (.iaload, 1) := by decide +kernel
theorem dX5_pattern_51 : decode cX5_pattern 51 = .ok (.ireturn, 1) := by decide +kernel
theorem dX5_pattern_52 : decode cX5_pattern 52 = .ok (.aload_n 0, 1) := by decide +kernel
theorem dX5_pattern_53 : decode cX5_pattern 53 = .ok (.getfield 12, 3) := by decide +kernel
theorem dX5_pattern_56 : decode cX5_pattern 56 = .ok (.iload_n 1, 1) := by decide +kernel
theorem dX5_pattern_57 : decode cX5_pattern 57 = .ok (.invokevirtual 196, 3) := by decide +kernel
theorem dX5_pattern_60 : decode cX5_pattern 60 = .ok (.ireturn, 1) := by decide +kernel
theorem dX5_pattern_61 : decode cX5_pattern 61 = .ok (.new 117, 3) := by decide +kernel
theorem dX5_pattern_64 : decode cX5_pattern 64 = .ok (.dup, 1) := by decide +kernel
theorem dX5_pattern_65 : decode cX5_pattern 65 = .ok (.ldc 199, 2) := by decide +kernel
theorem dX5_pattern_67 : decode cX5_pattern 67 = .ok (.invokespecial 121, 3) := by decide +kernel
theorem dX5_pattern_70 : decode cX5_pattern 70 = .ok (.athrow, 1) := by decide +kernel
theorem dX5_pass_0 : decode cX5_pass 0 = .ok (.iload_n 1, 1) := by decide +kernel
theorem dX5_pass_1 : decode cX5_pass 1 = .ok (.iconst 1, 1) := by decide +kernel
theorem dX5_pass_2 : decode cX5_pass 2 = .ok (.bipush 20, 2) := by decide +kernel
theorem dX5_pass_4 : decode cX5_pass 4 = .ok (.invokestatic 58, 3) := by decide +kernel
theorem dX5_pass_7 : decode cX5_pass 7 = .ok (.aload_n 0, 1) := by decide +kernel
theorem dX5_pass_8 : decode cX5_pass 8 = .ok (.getfield 22, 3) := by decide +kernel
theorem dX5_pass_11 : decode cX5_pass 11 = .ok (.aload_n 0, 1) := by decide +kernel
theorem dX5_pass_12 : decode cX5_pass 12 = .ok (.getfield 12, 3) := by decide +kernel
theorem dX5_pass_15 : decode cX5_pass 15 = .ok (.invokevirtual 69, 3) := by decide +kernel
theorem dX5_pass_18 : decode cX5_pass 18 = .ok (.aload_n 0, 1) := by decide +kernel
theorem dX5_pass_19 : decode cX5_pass 19 = .ok (.getfield 29, 3) := by decide +kernel
theorem dX5_pass_22 : decode cX5_pass 22 = .ok (.aload_n 0, 1) := by decide +kernel
theorem dX5_pass_23 : decode cX5_pass 23 = .ok (.getfield 12, 3) := by decide +kernel
theorem dX5_pass_26 : decode cX5_pass 26 = .ok (.iload_n 1, 1) := by decide +kernel
theorem dX5_pass_27 : decode cX5_pass 27 = .ok (.invokevirtual 167, 3) := by decide +kernel
theorem dX5_pass_30 : decode cX5_pass 30 = .ok (.ireturn, 1) := by decide +kernel
theorem dX5_paint_0 : decode cX5_paint 0 = .ok (.aload_n 0, 1) := by decide +kernel
theorem dX5_paint_1 : decode cX5_paint 1 = .ok (.iload_n 1, 1) := by decide +kernel
theorem dX5_paint_2 : decode cX5_paint 2 = .ok (.iload_n 2, 1) := by decide +kernel
theorem dX5_paint_3 : decode cX5_paint 3 = .ok (.invokevirtual 124, 3) := by decide +kernel
theorem dX5_paint_6 : decode cX5_paint 6 = .ok (.iload_n 3, 1) := by decide +kernel
theorem dX5_paint_7 : decode cX5_paint 7 = .ok (.iconst 1, 1) := by decide +kernel
theorem dX5_paint_8 : decode cX5_paint 8 = .ok (.bipush 6, 2) := by decide +kernel
theorem dX5_paint_10 : decode cX5_paint 10 = .ok (.invokestatic 58, 3) := by decide +kernel
theorem dX5_paint_13 : decode cX5_paint 13 = .ok (.iload 4, 2) := by decide +kernel
theorem dX5_paint_15 : decode cX5_paint 15 = .ok (.iconst 1, 1) := by decide +kernel
theorem dX5_paint_16 : decode cX5_paint 16 = .ok (.bipush 9, 2) := by decide +kernel
theorem dX5_paint_18 : decode cX5_paint 18 = .ok (.invokestatic 58, 3) := by decide +kernel
theorem dX5_paint_21 : decode cX5_paint 21 = .ok (.aload_n 0, 1) := by decide +kernel
theorem dX5_paint_22 : decode cX5_paint 22 = .ok (.getfield 22, 3) := by decide +kernel
theorem dX5_paint_25 : decode cX5_paint 25 = .ok (.aload_n 0, 1) := by decide +kernel
theorem dX5_paint_26 : decode cX5_paint 26 = .ok (.getfield 12, 3) := by decide +kernel
theorem dX5_paint_29 : decode cX5_paint 29 = .ok (.invokevirtual 69, 3) := by decide +kernel
theorem dX5_paint_32 : decode cX5_paint 32 = .ok (.aload_n 0, 1) := by decide +kernel
theorem dX5_paint_33 : decode cX5_paint 33 = .ok (.getfield 12, 3) := by decide +kernel
theorem dX5_paint_36 : decode cX5_paint 36 = .ok (.iload_n 1, 1) := by decide +kernel
theorem dX5_paint_37 : decode cX5_paint 37 = .ok (.iload_n 2, 1) := by decide +kernel
theorem dX5_paint_38 : decode cX5_paint 38 = .ok (.iload_n 3, 1) := by decide +kernel
theorem dX5_paint_39 : decode cX5_paint 39 = .ok (.iload 4, 2) := by decide +kernel
theorem dX5_paint_41 : decode cX5_paint 41 = .ok (.iload 5, 2) := by decide +kernel
theorem dX5_paint_43 : decode cX5_paint 43 = .ok (.invokevirtual 201, 3) := by decide +kernel
theorem dX5_paint_46 : decode cX5_paint 46 = .ok (.aload_n 0, 1) := by decide +kernel
theorem dX5_paint_47 : decode cX5_paint 47 = .ok (.getfield 12, 3) := by decide +kernel
theorem dX5_paint_50 : decode cX5_paint 50 = .ok (.invokevirtual 105, 3) := by decide +kernel
theorem dX5_paint_53 : decode cX5_paint 53 = .ok (.ireturn, 1) := by decide +kernel
theorem dX5_stroke_0 : decode cX5_stroke 0 = .ok (.aload_n 0, 1) := by decide +kernel
theorem dX5_stroke_1 : decode cX5_stroke 1 = .ok (.iload_n 1, 1) := by decide +kernel
theorem dX5_stroke_2 : decode cX5_stroke 2 = .ok (.iload_n 2, 1) := by decide +kernel
theorem dX5_stroke_3 : decode cX5_stroke 3 = .ok (.invokevirtual 124, 3) := by decide +kernel
theorem dX5_stroke_6 : decode cX5_stroke 6 = .ok (.iload_n 3, 1) := by decide +kernel
theorem dX5_stroke_7 : decode cX5_stroke 7 = .ok (.iconst 0, 1) := by decide +kernel
theorem dX5_stroke_8 : decode cX5_stroke 8 = .ok (.getstatic 205, 3) := by decide +kernel
theorem dX5_stroke_11 : decode cX5_stroke 11 = .ok (.arraylength, 1) := by decide +kernel
theorem dX5_stroke_12 : decode cX5_stroke 12 = .ok (.iconst 1, 1) := by decide +kernel
theorem dX5_stroke_13 : decode cX5_stroke 13 = .ok (.isub, 1) := by decide +kernel
theorem dX5_stroke_14 : decode cX5_stroke 14 = .ok (.invokestatic 58, 3) := by decide +kernel
theorem dX5_stroke_17 : decode cX5_stroke 17 = .ok (.iload 4, 2) := by decide +kernel
theorem dX5_stroke_19 : decode cX5_stroke 19 = .ok (.iconst 1, 1) := by decide +kernel
theorem dX5_stroke_20 : decode cX5_stroke 20 = .ok (.bipush 15, 2) := by decide +kernel
theorem dX5_stroke_22 : decode cX5_stroke 22 = .ok (.invokestatic 58, 3) := by decide +kernel
theorem dX5_stroke_25 : decode cX5_stroke 25 = .ok (.iload 5, 2) := by decide +kernel
theorem dX5_stroke_27 : decode cX5_stroke 27 = .ok (.iconst 1, 1) := by decide +kernel
theorem dX5_stroke_28 : decode cX5_stroke 28 = .ok (.bipush 6, 2) := by decide +kernel
theorem dX5_stroke_30 : decode cX5_stroke 30 = .ok (.invokestatic 58, 3) := by decide +kernel
theorem dX5_stroke_33 : decode cX5_stroke 33 = .ok (.aload_n 0, 1) := by decide +kernel
theorem dX5_stroke_34 : decode cX5_stroke 34 = .ok (.getfield 22, 3) := by decide +kernel
theorem dX5_stroke_37 : decode cX5_stroke 37 = .ok (.aload_n 0, 1) := by decide +kernel
theorem dX5_stroke_38 : decode cX5_stroke 38 = .ok (.getfield 12, 3) := by decide +kernel
theorem dX5_stroke_41 : decode cX5_stroke 41 = .ok (.invokevirtual 69, 3) := by decide +kernel
theorem dX5_stroke_44 : decode cX5_stroke 44 = .ok (.iconst 0, 1) := by decide +kernel
theorem dX5_stroke_45 : decode cX5_stroke 45 = .ok (.istore 6, 2) := by decide +kernel
theorem dX5_stroke_47 : decode cX5_stroke 47 = .ok (.iload_n 1, 1) := by decide +kernel
theorem dX5_stroke_48 : decode cX5_stroke 48 = .ok (.istore 7, 2) := by decide +kernel
theorem dX5_stroke_50 : decode cX5_stroke 50 = .ok (.iload_n 2, 1) := by decide +kernel
theorem dX5_stroke_51 : decode cX5_stroke 51 = .ok (.istore 8, 2) := by decide +kernel
theorem dX5_stroke_53 : decode cX5_stroke 53 = .ok (.iload 6, 2) := by decide +kernel
theorem dX5_stroke_55 : decode cX5_stroke 55 = .ok (.iload 4, 2) := by decide +kernel
theorem dX5_stroke_57 : decode cX5_stroke 57 = .ok (.if_icmp .ge 81, 3) := by decide +kernel
theorem dX5_stroke_60 : decode cX5_stroke 60 = .ok (.aload_n 0, 1) := by decide +kernel
theorem dX5_stroke_61 : decode cX5_stroke 61 = .ok (.getfield 12, 3) := by decide +kernel
theorem dX5_stroke_64 : decode cX5_stroke 64 = .ok (.iload 7, 2) := by decide +kernel
theorem dX5_stroke_66 : decode cX5_stroke 66 = .ok (.iload 8, 2) := by decide +kernel
theorem dX5_stroke_68 : decode cX5_stroke 68 = .ok (.invokevirtual 208, 3) := by decide +kernel
theorem dX5_stroke_71 : decode cX5_stroke 71 = .ok (.ifCond .eq 67, 3) := by decide +kernel
theorem dX5_stroke_74 : decode cX5_stroke 74 = .ok (.aload_n 0, 1) := by decide +kernel
theorem dX5_stroke_75 : decode cX5_stroke 75 = .ok (.getfield 12, 3) := by decide +kernel
theorem dX5_stroke_78 : decode cX5_stroke 78 = .ok (.getfield 139, 3) := by decide +kernel
theorem dX5_stroke_81 : decode cX5_stroke 81 = .ok (.aload_n 0, 1) := by decide +kernel
theorem dX5_stroke_82 : decode cX5_stroke 82 = .ok (.getfield 12, 3) := by decide +kernel
theorem dX5_stroke_85 : decode cX5_stroke 85 = .ok (.iload 7, 2) := by decide +kernel
theorem dX5_stroke_87 : decode cX5_stroke 87 = .ok (.iload 8, 2) := by decide +kernel
theorem dX5_stroke_89 : decode cX5_stroke 89 = .ok (.invokevirtual 128, 3) := by decide +kernel
theorem dX5_stroke_92 : decode cX5_stroke 92 = .ok (.iaload, 1) := by decide +kernel
theorem dX5_stroke_93 : decode cX5_stroke 93 = .ok (.ifCond .ne 45, 3) := by decide +kernel
theorem dX5_stroke_96 : decode cX5_stroke 96 = .ok (.aload_n 0, 1) := by decide +kernel
theorem dX5_stroke_97 : decode cX5_stroke 97 = .ok (.getfield 12, 3) := by decide +kernel
theorem dX5_stroke_100 : decode cX5_stroke 100 = .ok (.iload 7, 2) := by decide +kernel
theorem dX5_stroke_102 : decode cX5_stroke 102 = .ok (.iload 8, 2) := by decide +kernel
theorem dX5_stroke_104 : decode cX5_stroke 104 = .ok (.iload 5, 2) := by decide +kernel
theorem dX5_stroke_106 : decode cX5_stroke 106 = .ok (.bipush 6, 2) := by decide +kernel
theorem dX5_stroke_108 : decode cX5_stroke 108 = .ok (.iconst 1, 1) := by decide +kernel
theorem dX5_stroke_109 : decode cX5_stroke 109 = .ok (.invokevirtual 201, 3) := by decide +kernel
theorem dX5_stroke_112 : decode cX5_stroke 112 = .ok (.iinc 6 1, 3) := by decide +kernel
theorem dX5_stroke_115 : decode cX5_stroke 115 = .ok (.iload 7, 2) := by decide +kernel
theorem dX5_stroke_117 : decode cX5_stroke 117 = .ok (.getstatic 205, 3) := by decide +kernel
theorem dX5_stroke_120 : decode cX5_stroke 120 = .ok (.iload_n 3, 1) := by decide +kernel
theorem dX5_stroke_121 : decode cX5_stroke 121 = .ok (.iaload, 1) := by decide +kernel
theorem dX5_stroke_122 : decode cX5_stroke 122 = .ok (.iadd, 1) := by decide +kernel
theorem dX5_stroke_123 : decode cX5_stroke 123 = .ok (.istore 7, 2) := by decide +kernel
theorem dX5_stroke_125 : decode cX5_stroke 125 = .ok (.iload 8, 2) := by decide +kernel
theorem dX5_stroke_127 : decode cX5_stroke 127 = .ok (.getstatic 212, 3) := by decide +kernel
theorem dX5_stroke_130 : decode cX5_stroke 130 = .ok (.iload_n 3, 1) := by decide +kernel
theorem dX5_stroke_131 : decode cX5_stroke 131 = .ok (.iaload, 1) := by decide +kernel
theorem dX5_stroke_132 : decode cX5_stroke 132 = .ok (.iadd, 1) := by decide +kernel
theorem dX5_stroke_133 : decode cX5_stroke 133 = .ok (.istore 8, 2) := by decide +kernel
theorem dX5_stroke_135 : decode cX5_stroke 135 = .ok (.goto (-82), 3) := by decide +kernel
theorem dX5_stroke_138 : decode cX5_stroke 138 = .ok (.iload 6, 2) := by decide +kernel
theorem dX5_stroke_140 : decode cX5_stroke 140 = .ok (.ireturn, 1) := by decide +kernel
theorem dX5_stamp_0 : decode cX5_stamp 0 = .ok (.aload_n 0, 1) := by decide +kernel
theorem dX5_stamp_1 : decode cX5_stamp 1 = .ok (.iload_n 1, 1) := by decide +kernel
theorem dX5_stamp_2 : decode cX5_stamp 2 = .ok (.invokevirtual 187, 3) := by decide +kernel
theorem dX5_stamp_5 : decode cX5_stamp 5 = .ok (.aload_n 0, 1) := by decide +kernel
theorem dX5_stamp_6 : decode cX5_stamp 6 = .ok (.iload_n 2, 1) := by decide +kernel
theorem dX5_stamp_7 : decode cX5_stamp 7 = .ok (.iload_n 3, 1) := by decide +kernel
theorem dX5_stamp_8 : decode cX5_stamp 8 = .ok (.invokevirtual 124, 3) := by decide +kernel
theorem dX5_stamp_11 : decode cX5_stamp 11 = .ok (.aload_n 0, 1) := by decide +kernel
theorem dX5_stamp_12 : decode cX5_stamp 12 = .ok (.getfield 22, 3) := by decide +kernel
theorem dX5_stamp_15 : decode cX5_stamp 15 = .ok (.aload_n 0, 1) := by decide +kernel
theorem dX5_stamp_16 : decode cX5_stamp 16 = .ok (.getfield 12, 3) := by decide +kernel
theorem dX5_stamp_19 : decode cX5_stamp 19 = .ok (.invokevirtual 69, 3) := by decide +kernel
theorem dX5_stamp_22 : decode cX5_stamp 22 = .ok (.aload_n 0, 1) := by decide +kernel
theorem dX5_stamp_23 : decode cX5_stamp 23 = .ok (.getfield 16, 3) := by decide +kernel
theorem dX5_stamp_26 : decode cX5_stamp 26 = .ok (.aload_n 0, 1) := by decide +kernel
theorem dX5_stamp_27 : decode cX5_stamp 27 = .ok (.getfield 12, 3) := by decide +kernel
theorem dX5_stamp_30 : decode cX5_stamp 30 = .ok (.invokevirtual 73, 3) := by decide +kernel
theorem dX5_stamp_33 : decode cX5_stamp 33 = .ok (.iconst 0, 1) := by decide +kernel
theorem dX5_stamp_34 : decode cX5_stamp 34 = .ok (.istore 5, 2) := by decide +kernel
theorem dX5_stamp_36 : decode cX5_stamp 36 = .ok (.iload 5, 2) := by decide +kernel
theorem dX5_stamp_38 : decode cX5_stamp 38 = .ok (.aload_n 0, 1) := by decide +kernel
theorem dX5_stamp_39 : decode cX5_stamp 39 = .ok (.getfield 12, 3) := by decide +kernel
theorem dX5_stamp_42 : decode cX5_stamp 42 = .ok (.getfield 193, 3) := by decide +kernel
theorem dX5_stamp_45 : decode cX5_stamp 45 = .ok (.iload_n 1, 1) := by decide +kernel
theorem dX5_stamp_46 : decode cX5_stamp 46 = .ok (.iaload, 1) := by decide +kernel
theorem dX5_stamp_47 : decode cX5_stamp 47 = .ok (.if_icmp .ge 71, 3) := by decide +kernel
theorem dX5_stamp_50 : decode cX5_stamp 50 = .ok (.iconst 0, 1) := by decide +kernel
theorem dX5_stamp_51 : decode cX5_stamp 51 = .ok (.istore 6, 2) := by decide +kernel
theorem dX5_stamp_53 : decode cX5_stamp 53 = .ok (.iload 6, 2) := by decide +kernel
theorem dX5_stamp_55 : decode cX5_stamp 55 = .ok (.aload_n 0, 1) := by decide +kernel
theorem dX5_stamp_56 : decode cX5_stamp 56 = .ok (.getfield 12, 3) := by decide +kernel
theorem dX5_stamp_59 : decode cX5_stamp 59 = .ok (.getfield 190, 3) := by decide +kernel
theorem dX5_stamp_62 : decode cX5_stamp 62 = .ok (.iload_n 1, 1) := by decide +kernel
theorem dX5_stamp_63 : decode cX5_stamp 63 = .ok (.iaload, 1) := by decide +kernel
theorem dX5_stamp_64 : decode cX5_stamp 64 = .ok (.if_icmp .ge 48, 3) := by decide +kernel
theorem dX5_stamp_67 : decode cX5_stamp 67 = .ok (.aload_n 0, 1) := by decide +kernel
theorem dX5_stamp_68 : decode cX5_stamp 68 = .ok (.getfield 12, 3) := by decide +kernel
theorem dX5_stamp_71 : decode cX5_stamp 71 = .ok (.iload_n 1, 1) := by decide +kernel
theorem dX5_stamp_72 : decode cX5_stamp 72 = .ok (.iload 5, 2) := by decide +kernel
theorem dX5_stamp_74 : decode cX5_stamp 74 = .ok (.iload 6, 2) := by decide +kernel
theorem dX5_stamp_76 : decode cX5_stamp 76 = .ok (.invokevirtual 215, 3) := by decide +kernel
theorem dX5_stamp_79 : decode cX5_stamp 79 = .ok (.istore 7, 2) := by decide +kernel
theorem dX5_stamp_81 : decode cX5_stamp 81 = .ok (.iload 7, 2) := by decide +kernel
theorem dX5_stamp_83 : decode cX5_stamp 83 = .ok (.ifCond .eq 23, 3) := by decide +kernel
theorem dX5_stamp_86 : decode cX5_stamp 86 = .ok (.aload_n 0, 1) := by decide +kernel
theorem dX5_stamp_87 : decode cX5_stamp 87 = .ok (.getfield 12, 3) := by decide +kernel
theorem dX5_stamp_90 : decode cX5_stamp 90 = .ok (.iload_n 2, 1) := by decide +kernel
theorem dX5_stamp_91 : decode cX5_stamp 91 = .ok (.iload 6, 2) := by decide +kernel
theorem dX5_stamp_93 : decode cX5_stamp 93 = .ok (.iadd, 1) := by decide +kernel
theorem dX5_stamp_94 : decode cX5_stamp 94 = .ok (.iload_n 3, 1) := by decide +kernel
theorem dX5_stamp_95 : decode cX5_stamp 95 = .ok (.iload 5, 2) := by decide +kernel
theorem dX5_stamp_97 : decode cX5_stamp 97 = .ok (.iadd, 1) := by decide +kernel
theorem dX5_stamp_98 : decode cX5_stamp 98 = .ok (.iload 7, 2) := by decide +kernel
theorem dX5_stamp_100 : decode cX5_stamp 100 = .ok (.iconst 4, 1) := by decide +kernel
theorem dX5_stamp_101 : decode cX5_stamp 101 = .ok (.iload 4, 2) := by decide +kernel
theorem dX5_stamp_103 : decode cX5_stamp 103 = .ok (.invokevirtual 201, 3) := by decide +kernel
theorem dX5_stamp_106 : decode cX5_stamp 106 = .ok (.iinc 6 1, 3) := by decide +kernel
theorem dX5_stamp_109 : decode cX5_stamp 109 = .ok (.goto (-56), 3) := by decide +kernel
theorem dX5_stamp_112 : decode cX5_stamp 112 = .ok (.iinc 5 1, 3) := by decide +kernel
theorem dX5_stamp_115 : decode cX5_stamp 115 = .ok (.goto (-79), 3) := by decide +kernel
theorem dX5_stamp_118 : decode cX5_stamp 118 = .ok (.aload_n 0, 1) := by decide +kernel
theorem dX5_stamp_119 : decode cX5_stamp 119 = .ok (.getfield 12, 3) := by decide +kernel
theorem dX5_stamp_122 : decode cX5_stamp 122 = .ok (.aload_n 0, 1) := by decide +kernel
theorem dX5_stamp_123 : decode cX5_stamp 123 = .ok (.getfield 16, 3) := by decide +kernel
theorem dX5_stamp_126 : decode cX5_stamp 126 = .ok (.invokevirtual 219, 3) := by decide +kernel
theorem dX5_stamp_129 : decode cX5_stamp 129 = .ok (.ireturn, 1) := by decide +kernel
theorem dX5_spar_0 : decode cX5_spar 0 = .ok (.aload_n 0, 1) := by decide +kernel
theorem dX5_spar_1 : decode cX5_spar 1 = .ok (.iload_n 1, 1) := by decide +kernel
theorem dX5_spar_2 : decode cX5_spar 2 = .ok (.iload_n 2, 1) := by decide +kernel
theorem dX5_spar_3 : decode cX5_spar 3 = .ok (.invokevirtual 124, 3) := by decide +kernel
theorem dX5_spar_6 : decode cX5_spar 6 = .ok (.iload 4, 2) := by decide +kernel
theorem dX5_spar_8 : decode cX5_spar 8 = .ok (.iconst 1, 1) := by decide +kernel
theorem dX5_spar_9 : decode cX5_spar 9 = .ok (.bipush 15, 2) := by decide +kernel
theorem dX5_spar_11 : decode cX5_spar 11 = .ok (.invokestatic 58, 3) := by decide +kernel
theorem dX5_spar_14 : decode cX5_spar 14 = .ok (.aload_n 0, 1) := by decide +kernel
theorem dX5_spar_15 : decode cX5_spar 15 = .ok (.getfield 22, 3) := by decide +kernel
theorem dX5_spar_18 : decode cX5_spar 18 = .ok (.aload_n 0, 1) := by decide +kernel
theorem dX5_spar_19 : decode cX5_spar 19 = .ok (.getfield 12, 3) := by decide +kernel
theorem dX5_spar_22 : decode cX5_spar 22 = .ok (.invokevirtual 69, 3) := by decide +kernel
theorem dX5_spar_25 : decode cX5_spar 25 = .ok (.aload_n 0, 1) := by decide +kernel
theorem dX5_spar_26 : decode cX5_spar 26 = .ok (.getfield 12, 3) := by decide +kernel
theorem dX5_spar_29 : decode cX5_spar 29 = .ok (.invokevirtual 89, 3) := by decide +kernel
theorem dX5_spar_32 : decode cX5_spar 32 = .ok (.istore 5, 2) := by decide +kernel
theorem dX5_spar_34 : decode cX5_spar 34 = .ok (.iload_n 1, 1) := by decide +kernel
theorem dX5_spar_35 : decode cX5_spar 35 = .ok (.istore 6, 2) := by decide +kernel
theorem dX5_spar_37 : decode cX5_spar 37 = .ok (.iload_n 2, 1) := by decide +kernel
theorem dX5_spar_38 : decode cX5_spar 38 = .ok (.istore 7, 2) := by decide +kernel
theorem dX5_spar_40 : decode cX5_spar 40 = .ok (.iconst 0, 1) := by decide +kernel
theorem dX5_spar_41 : decode cX5_spar 41 = .ok (.istore 8, 2) := by decide +kernel
theorem dX5_spar_43 : decode cX5_spar 43 = .ok (.iload 8, 2) := by decide +kernel
theorem dX5_spar_45 : decode cX5_spar 45 = .ok (.iload 4, 2) := by decide +kernel
theorem dX5_spar_47 : decode cX5_spar 47 = .ok (.if_icmp .ge 71, 3) := by decide +kernel
theorem dX5_spar_50 : decode cX5_spar 50 = .ok (.aload_n 0, 1) := by decide +kernel
theorem dX5_spar_51 : decode cX5_spar 51 = .ok (.getfield 12, 3) := by decide +kernel
theorem dX5_spar_54 : decode cX5_spar 54 = .ok (.iload 6, 2) := by decide +kernel
theorem dX5_spar_56 : decode cX5_spar 56 = .ok (.iload 7, 2) := by decide +kernel
theorem dX5_spar_58 : decode cX5_spar 58 = .ok (.invokevirtual 208, 3) := by decide +kernel
theorem dX5_spar_61 : decode cX5_spar 61 = .ok (.ifCond .eq 57, 3) := by decide +kernel
theorem dX5_spar_64 : decode cX5_spar 64 = .ok (.aload_n 0, 1) := by decide +kernel
theorem dX5_spar_65 : decode cX5_spar 65 = .ok (.getfield 12, 3) := by decide +kernel
theorem dX5_spar_68 : decode cX5_spar 68 = .ok (.getfield 139, 3) := by decide +kernel
theorem dX5_spar_71 : decode cX5_spar 71 = .ok (.aload_n 0, 1) := by decide +kernel
theorem dX5_spar_72 : decode cX5_spar 72 = .ok (.getfield 12, 3) := by decide +kernel
theorem dX5_spar_75 : decode cX5_spar 75 = .ok (.iload 6, 2) := by decide +kernel
theorem dX5_spar_77 : decode cX5_spar 77 = .ok (.iload 7, 2) := by decide +kernel
theorem dX5_spar_79 : decode cX5_spar 79 = .ok (.invokevirtual 128, 3) := by decide +kernel
theorem dX5_spar_82 : decode cX5_spar 82 = .ok (.iconst 1, 1) := by decide +kernel
theorem dX5_spar_83 : decode cX5_spar 83 = .ok (.iastore, 1) := by decide +kernel
theorem dX5_spar_84 : decode cX5_spar 84 = .ok (.iload 6, 2) := by decide +kernel
theorem dX5_spar_86 : decode cX5_spar 86 = .ok (.iload_n 3, 1) := by decide +kernel
theorem dX5_spar_87 : decode cX5_spar 87 = .ok (.ifCond .eq 7, 3) := by decide +kernel
theorem dX5_spar_90 : decode cX5_spar 90 = .ok (.iconst 0, 1) := by decide +kernel
theorem dX5_spar_91 : decode cX5_spar 91 = .ok (.goto 4, 3) := by decide +kernel
theorem dX5_spar_94 : decode cX5_spar 94 = .ok (.iconst 1, 1) := by decide +kernel
theorem dX5_spar_95 : decode cX5_spar 95 = .ok (.iadd, 1) := by decide +kernel
theorem dX5_spar_96 : decode cX5_spar 96 = .ok (.istore 6, 2) := by decide +kernel
theorem dX5_spar_98 : decode cX5_spar 98 = .ok (.iload 7, 2) := by decide +kernel
theorem dX5_spar_100 : decode cX5_spar 100 = .ok (.iload_n 3, 1) := by decide +kernel
theorem dX5_spar_101 : decode cX5_spar 101 = .ok (.ifCond .eq 7, 3) := by decide +kernel
theorem dX5_spar_104 : decode cX5_spar 104 = .ok (.iconst 1, 1) := by decide +kernel
theorem dX5_spar_105 : decode cX5_spar 105 = .ok (.goto 4, 3) := by decide +kernel
theorem dX5_spar_108 : decode cX5_spar 108 = .ok (.iconst 0, 1) := by decide +kernel
theorem dX5_spar_109 : decode cX5_spar 109 = .ok (.iadd, 1) := by decide +kernel
theorem dX5_spar_110 : decode cX5_spar 110 = .ok (.istore 7, 2) := by decide +kernel
theorem dX5_spar_112 : decode cX5_spar 112 = .ok (.iinc 8 1, 3) := by decide +kernel
theorem dX5_spar_115 : decode cX5_spar 115 = .ok (.goto (-72), 3) := by decide +kernel
theorem dX5_spar_118 : decode cX5_spar 118 = .ok (.aload_n 0, 1) := by decide +kernel
theorem dX5_spar_119 : decode cX5_spar 119 = .ok (.getfield 12, 3) := by decide +kernel
theorem dX5_spar_122 : decode cX5_spar 122 = .ok (.invokevirtual 89, 3) := by decide +kernel
theorem dX5_spar_125 : decode cX5_spar 125 = .ok (.iload 5, 2) := by decide +kernel
theorem dX5_spar_127 : decode cX5_spar 127 = .ok (.isub, 1) := by decide +kernel
theorem dX5_spar_128 : decode cX5_spar 128 = .ok (.ireturn, 1) := by decide +kernel
theorem dX5_strip_0 : decode cX5_strip 0 = .ok (.aload_n 0, 1) := by decide +kernel
theorem dX5_strip_1 : decode cX5_strip 1 = .ok (.iload_n 1, 1) := by decide +kernel
theorem dX5_strip_2 : decode cX5_strip 2 = .ok (.iload_n 2, 1) := by decide +kernel
theorem dX5_strip_3 : decode cX5_strip 3 = .ok (.invokevirtual 124, 3) := by decide +kernel
theorem dX5_strip_6 : decode cX5_strip 6 = .ok (.aload_n 0, 1) := by decide +kernel
theorem dX5_strip_7 : decode cX5_strip 7 = .ok (.getfield 12, 3) := by decide +kernel
theorem dX5_strip_10 : decode cX5_strip 10 = .ok (.iload_n 1, 1) := by decide +kernel
theorem dX5_strip_11 : decode cX5_strip 11 = .ok (.iload_n 2, 1) := by decide +kernel
theorem dX5_strip_12 : decode cX5_strip 12 = .ok (.invokevirtual 128, 3) := by decide +kernel
theorem dX5_strip_15 : decode cX5_strip 15 = .ok (.istore_n 3, 1) := by decide +kernel
theorem dX5_strip_16 : decode cX5_strip 16 = .ok (.aload_n 0, 1) := by decide +kernel
theorem dX5_strip_17 : decode cX5_strip 17 = .ok (.getfield 12, 3) := by decide +kernel
theorem dX5_strip_20 : decode cX5_strip 20 = .ok (.getfield 139, 3) := by decide +kernel
theorem dX5_strip_23 : decode cX5_strip 23 = .ok (.iload_n 3, 1) := by decide +kernel
theorem dX5_strip_24 : decode cX5_strip 24 = .ok (.iaload, 1) := by decide +kernel
theorem dX5_strip_25 : decode cX5_strip 25 = .ok (.ifCond .ne 13, 3) := by decide +kernel
theorem dX5_strip_28 : decode cX5_strip 28 = .ok (.new 223, 3) := by decide +kernel
theorem dX5_strip_31 : decode cX5_strip 31 = .ok (.dup, 1) := by decide +kernel
theorem dX5_strip_32 : decode cX5_strip 32 = .ok (.ldc 225, 2) := by decide +kernel
theorem dX5_strip_34 : decode cX5_strip 34 = .ok (.invokespecial 227, 3) := by decide +kernel
theorem dX5_strip_37 : decode cX5_strip 37 = .ok (.athrow, 1) := by decide +kernel
theorem dX5_strip_38 : decode cX5_strip 38 = .ok (.aload_n 0, 1) := by decide +kernel
theorem dX5_strip_39 : decode cX5_strip 39 = .ok (.getfield 22, 3) := by decide +kernel
theorem dX5_strip_42 : decode cX5_strip 42 = .ok (.aload_n 0, 1) := by decide +kernel
theorem dX5_strip_43 : decode cX5_strip 43 = .ok (.getfield 12, 3) := by decide +kernel
theorem dX5_strip_46 : decode cX5_strip 46 = .ok (.invokevirtual 69, 3) := by decide +kernel
theorem dX5_strip_49 : decode cX5_strip 49 = .ok (.aload_n 0, 1) := by decide +kernel
theorem dX5_strip_50 : decode cX5_strip 50 = .ok (.getfield 12, 3) := by decide +kernel
theorem dX5_strip_53 : decode cX5_strip 53 = .ok (.getfield 139, 3) := by decide +kernel
theorem dX5_strip_56 : decode cX5_strip 56 = .ok (.iload_n 3, 1) := by decide +kernel
theorem dX5_strip_57 : decode cX5_strip 57 = .ok (.iconst 0, 1) := by decide +kernel
theorem dX5_strip_58 : decode cX5_strip 58 = .ok (.iastore, 1) := by decide +kernel
theorem dX5_strip_59 : decode cX5_strip 59 = .ok (.aload_n 0, 1) := by decide +kernel
theorem dX5_strip_60 : decode cX5_strip 60 = .ok (.getfield 12, 3) := by decide +kernel
theorem dX5_strip_63 : decode cX5_strip 63 = .ok (.invokevirtual 105, 3) := by decide +kernel
theorem dX5_strip_66 : decode cX5_strip 66 = .ok (.ireturn, 1) := by decide +kernel
theorem dX5_wash_0 : decode cX5_wash 0 = .ok (.aload_n 0, 1) := by decide +kernel
theorem dX5_wash_1 : decode cX5_wash 1 = .ok (.iload_n 1, 1) := by decide +kernel
theorem dX5_wash_2 : decode cX5_wash 2 = .ok (.iload_n 2, 1) := by decide +kernel
theorem dX5_wash_3 : decode cX5_wash 3 = .ok (.invokevirtual 124, 3) := by decide +kernel
theorem dX5_wash_6 : decode cX5_wash 6 = .ok (.aload_n 0, 1) := by decide +kernel
theorem dX5_wash_7 : decode cX5_wash 7 = .ok (.getfield 12, 3) := by decide +kernel
theorem dX5_wash_10 : decode cX5_wash 10 = .ok (.getfield 132, 3) := by decide +kernel
theorem dX5_wash_13 : decode cX5_wash 13 = .ok (.aload_n 0, 1) := by decide +kernel
theorem dX5_wash_14 : decode cX5_wash 14 = .ok (.getfield 12, 3) := by decide +kernel
theorem dX5_wash_17 : decode cX5_wash 17 = .ok (.iload_n 1, 1) := by decide +kernel
theorem dX5_wash_18 : decode cX5_wash 18 = .ok (.iload_n 2, 1) := by decide +kernel
theorem dX5_wash_19 : decode cX5_wash 19 = .ok (.invokevirtual 128, 3) := by decide +kernel
theorem dX5_wash_22 : decode cX5_wash 22 = .ok (.iaload, 1) := by decide +kernel
theorem dX5_wash_23 : decode cX5_wash 23 = .ok (.ifCond .ne 13, 3) := by decide +kernel
theorem dX5_wash_26 : decode cX5_wash 26 = .ok (.new 223, 3) := by decide +kernel
theorem dX5_wash_29 : decode cX5_wash 29 = .ok (.dup, 1) := by decide +kernel
theorem dX5_wash_30 : decode cX5_wash 30 = .ok (.ldc 228, 2) := by decide +kernel
theorem dX5_wash_32 : decode cX5_wash 32 = .ok (.invokespecial 227, 3) := by decide +kernel
theorem dX5_wash_35 : decode cX5_wash 35 = .ok (.athrow, 1) := by decide +kernel
theorem dX5_wash_36 : decode cX5_wash 36 = .ok (.aload_n 0, 1) := by decide +kernel
theorem dX5_wash_37 : decode cX5_wash 37 = .ok (.getfield 22, 3) := by decide +kernel
theorem dX5_wash_40 : decode cX5_wash 40 = .ok (.aload_n 0, 1) := by decide +kernel
theorem dX5_wash_41 : decode cX5_wash 41 = .ok (.getfield 12, 3) := by decide +kernel
theorem dX5_wash_44 : decode cX5_wash 44 = .ok (.invokevirtual 69, 3) := by decide +kernel
theorem dX5_wash_47 : decode cX5_wash 47 = .ok (.aload_n 0, 1) := by decide +kernel
theorem dX5_wash_48 : decode cX5_wash 48 = .ok (.getfield 36, 3) := by decide +kernel
theorem dX5_wash_51 : decode cX5_wash 51 = .ok (.aload_n 0, 1) := by decide +kernel
theorem dX5_wash_52 : decode cX5_wash 52 = .ok (.getfield 12, 3) := by decide +kernel
theorem dX5_wash_55 : decode cX5_wash 55 = .ok (.iload_n 1, 1) := by decide +kernel
theorem dX5_wash_56 : decode cX5_wash 56 = .ok (.iload_n 2, 1) := by decide +kernel
theorem dX5_wash_57 : decode cX5_wash 57 = .ok (.invokevirtual 156, 3) := by decide +kernel
theorem dX5_wash_60 : decode cX5_wash 60 = .ok (.istore_n 3, 1) := by decide +kernel
theorem dX5_wash_61 : decode cX5_wash 61 = .ok (.aload_n 0, 1) := by decide +kernel
theorem dX5_wash_62 : decode cX5_wash 62 = .ok (.getfield 36, 3) := by decide +kernel
theorem dX5_wash_65 : decode cX5_wash 65 = .ok (.aload_n 0, 1) := by decide +kernel
theorem dX5_wash_66 : decode cX5_wash 66 = .ok (.getfield 12, 3) := by decide +kernel
theorem dX5_wash_69 : decode cX5_wash 69 = .ok (.invokevirtual 230, 3) := by decide +kernel
theorem dX5_wash_72 : decode cX5_wash 72 = .ok (.iload_n 3, 1) := by decide +kernel
theorem dX5_wash_73 : decode cX5_wash 73 = .ok (.ireturn, 1) := by decide +kernel
theorem dX5_undo_0 : decode cX5_undo 0 = .ok (.aload_n 0, 1) := by decide +kernel
theorem dX5_undo_1 : decode cX5_undo 1 = .ok (.getfield 22, 3) := by decide +kernel
theorem dX5_undo_4 : decode cX5_undo 4 = .ok (.getfield 233, 3) := by decide +kernel
theorem dX5_undo_7 : decode cX5_undo 7 = .ok (.ifCond .ne 5, 3) := by decide +kernel
theorem dX5_undo_10 : decode cX5_undo 10 = .ok (.iconst (-1), 1) := by decide +kernel
theorem dX5_undo_11 : decode cX5_undo 11 = .ok (.ireturn, 1) := by decide +kernel
theorem dX5_undo_12 : decode cX5_undo 12 = .ok (.aload_n 0, 1) := by decide +kernel
theorem dX5_undo_13 : decode cX5_undo 13 = .ok (.getfield 22, 3) := by decide +kernel
theorem dX5_undo_16 : decode cX5_undo 16 = .ok (.aload_n 0, 1) := by decide +kernel
theorem dX5_undo_17 : decode cX5_undo 17 = .ok (.getfield 12, 3) := by decide +kernel
theorem dX5_undo_20 : decode cX5_undo 20 = .ok (.invokevirtual 236, 3) := by decide +kernel
theorem dX5_undo_23 : decode cX5_undo 23 = .ok (.aload_n 0, 1) := by decide +kernel
theorem dX5_undo_24 : decode cX5_undo 24 = .ok (.getfield 22, 3) := by decide +kernel
theorem dX5_undo_27 : decode cX5_undo 27 = .ok (.getfield 233, 3) := by decide +kernel
theorem dX5_undo_30 : decode cX5_undo 30 = .ok (.ireturn, 1) := by decide +kernel
theorem dX5_checksum_0 : decode cX5_checksum 0 = .ok (.lconst 0, 1) := by decide +kernel
theorem dX5_checksum_1 : decode cX5_checksum 1 = .ok (.lstore_n 1, 1) := by decide +kernel
theorem dX5_checksum_2 : decode cX5_checksum 2 = .ok (.iconst 0, 1) := by decide +kernel
theorem dX5_checksum_3 : decode cX5_checksum 3 = .ok (.istore_n 3, 1) := by decide +kernel
theorem dX5_checksum_4 : decode cX5_checksum 4 = .ok (.iload_n 3, 1) := by decide +kernel
theorem dX5_checksum_5 : decode cX5_checksum 5 = .ok (.bipush 12, 2) := by decide +kernel
theorem dX5_checksum_7 : decode cX5_checksum 7 = .ok (.if_icmp .gt 22, 3) := by decide +kernel
theorem dX5_checksum_10 : decode cX5_checksum 10 = .ok (.ldc2_w 239, 3) := by decide +kernel
theorem dX5_checksum_13 : decode cX5_checksum 13 = .ok (.lload_n 1, 1) := by decide +kernel
theorem dX5_checksum_14 : decode cX5_checksum 14 = .ok (.lmul, 1) := by decide +kernel
theorem dX5_checksum_15 : decode cX5_checksum 15 = .ok (.aload_n 0, 1) := by decide +kernel
theorem dX5_checksum_16 : decode cX5_checksum 16 = .ok (.iload_n 3, 1) := by decide +kernel
theorem dX5_checksum_17 : decode cX5_checksum 17 = .ok (.invokevirtual 241, 3) := by decide +kernel
theorem dX5_checksum_20 : decode cX5_checksum 20 = .ok (.i2l, 1) := by decide +kernel
theorem dX5_checksum_21 : decode cX5_checksum 21 = .ok (.ladd, 1) := by decide +kernel
theorem dX5_checksum_22 : decode cX5_checksum 22 = .ok (.lstore_n 1, 1) := by decide +kernel
theorem dX5_checksum_23 : decode cX5_checksum 23 = .ok (.iinc 3 1, 3) := by decide +kernel
theorem dX5_checksum_26 : decode cX5_checksum 26 = .ok (.goto (-22), 3) := by decide +kernel
theorem dX5_checksum_29 : decode cX5_checksum 29 = .ok (.iconst 0, 1) := by decide +kernel
theorem dX5_checksum_30 : decode cX5_checksum 30 = .ok (.istore_n 3, 1) := by decide +kernel
theorem dX5_checksum_31 : decode cX5_checksum 31 = .ok (.iload_n 3, 1) := by decide +kernel
theorem dX5_checksum_32 : decode cX5_checksum 32 = .ok (.aload_n 0, 1) := by decide +kernel
theorem dX5_checksum_33 : decode cX5_checksum 33 = .ok (.getfield 12, 3) := by decide +kernel
theorem dX5_checksum_36 : decode cX5_checksum 36 = .ok (.getfield 83, 3) := by decide +kernel
theorem dX5_checksum_39 : decode cX5_checksum 39 = .ok (.if_icmp .ge 70, 3) := by decide +kernel
theorem dX5_checksum_42 : decode cX5_checksum 42 = .ok (.aload_n 0, 1) := by decide +kernel
theorem dX5_checksum_43 : decode cX5_checksum 43 = .ok (.getfield 12, 3) := by decide +kernel
theorem dX5_checksum_46 : decode cX5_checksum 46 = .ok (.iload_n 3, 1) := by decide +kernel
theorem dX5_checksum_47 : decode cX5_checksum 47 = .ok (.invokevirtual 175, 3) := by decide +kernel
theorem dX5_checksum_50 : decode cX5_checksum 50 = .ok (.istore 4, 2) := by decide +kernel
theorem dX5_checksum_52 : decode cX5_checksum 52 = .ok (.iload 4, 2) := by decide +kernel
theorem dX5_checksum_54 : decode cX5_checksum 54 = .ok (.aload_n 0, 1) := by decide +kernel
theorem dX5_checksum_55 : decode cX5_checksum 55 = .ok (.getfield 12, 3) := by decide +kernel
theorem dX5_checksum_58 : decode cX5_checksum 58 = .ok (.iload_n 3, 1) := by decide +kernel
theorem dX5_checksum_59 : decode cX5_checksum 59 = .ok (.invokevirtual 178, 3) := by decide +kernel
theorem dX5_checksum_62 : decode cX5_checksum 62 = .ok (.if_icmp .gt 41, 3) := by decide +kernel
theorem dX5_checksum_65 : decode cX5_checksum 65 = .ok (.iconst 0, 1) := by decide +kernel
theorem dX5_checksum_66 : decode cX5_checksum 66 = .ok (.istore 5, 2) := by decide +kernel
theorem dX5_checksum_68 : decode cX5_checksum 68 = .ok (.iload 5, 2) := by decide +kernel
theorem dX5_checksum_70 : decode cX5_checksum 70 = .ok (.iconst 3, 1) := by decide +kernel
theorem dX5_checksum_71 : decode cX5_checksum 71 = .ok (.if_icmp .gt 26, 3) := by decide +kernel
theorem dX5_checksum_74 : decode cX5_checksum 74 = .ok (.ldc2_w 239, 3) := by decide +kernel
theorem dX5_checksum_77 : decode cX5_checksum 77 = .ok (.lload_n 1, 1) := by decide +kernel
theorem dX5_checksum_78 : decode cX5_checksum 78 = .ok (.lmul, 1) := by decide +kernel
theorem dX5_checksum_79 : decode cX5_checksum 79 = .ok (.aload_n 0, 1) := by decide +kernel
theorem dX5_checksum_80 : decode cX5_checksum 80 = .ok (.iload 4, 2) := by decide +kernel
theorem dX5_checksum_82 : decode cX5_checksum 82 = .ok (.iload_n 3, 1) := by decide +kernel
theorem dX5_checksum_83 : decode cX5_checksum 83 = .ok (.iload 5, 2) := by decide +kernel
theorem dX5_checksum_85 : decode cX5_checksum 85 = .ok (.invokevirtual 244, 3) := by decide +kernel
theorem dX5_checksum_88 : decode cX5_checksum 88 = .ok (.i2l, 1) := by decide +kernel
theorem dX5_checksum_89 : decode cX5_checksum 89 = .ok (.ladd, 1) := by decide +kernel
theorem dX5_checksum_90 : decode cX5_checksum 90 = .ok (.lstore_n 1, 1) := by decide +kernel
theorem dX5_checksum_91 : decode cX5_checksum 91 = .ok (.iinc 5 1, 3) := by decide +kernel
theorem dX5_checksum_94 : decode cX5_checksum 94 = .ok (.goto (-26), 3) := by decide +kernel
theorem dX5_checksum_97 : decode cX5_checksum 97 = .ok (.iinc 4 1, 3) := by decide +kernel
theorem dX5_checksum_100 : decode cX5_checksum 100 = .ok (.goto (-48), 3) := by decide +kernel
theorem dX5_checksum_103 : decode cX5_checksum 103 = .ok (.iinc 3 1, 3) := by decide +kernel
theorem dX5_checksum_106 : decode cX5_checksum 106 = .ok (.goto (-75), 3) := by decide +kernel
theorem dX5_checksum_109 : decode cX5_checksum 109 = .ok (.lload_n 1, 1) := by decide +kernel
theorem dX5_checksum_110 : decode cX5_checksum 110 = .ok (.lreturn, 1) := by decide +kernel
theorem dX5_requireCell_0 : decode cX5_requireCell 0 = .ok (.aload_n 0, 1) := by decide +kernel
theorem dX5_requireCell_1 : decode cX5_requireCell 1 = .ok (.getfield 12, 3) := by decide +kernel
theorem dX5_requireCell_4 : decode cX5_requireCell 4 = .ok (.iload_n 1, 1) := by decide +kernel
theorem dX5_requireCell_5 : decode cX5_requireCell 5 = .ok (.iload_n 2, 1) := by decide +kernel
theorem dX5_requireCell_6 : decode cX5_requireCell 6 = .ok (.invokevirtual 208, 3) := by decide +kernel
theorem dX5_requireCell_9 : decode cX5_requireCell 9 = .ok (.ifCond .ne 13, 3) := by decide +kernel
theorem dX5_requireCell_12 : decode cX5_requireCell 12 = .ok (.new 247, 3) := by decide +kernel
theorem dX5_requireCell_15 : decode cX5_requireCell 15 = .ok (.dup, 1) := by decide +kernel
theorem dX5_requireCell_16 : decode cX5_requireCell 16 = .ok (.ldc 249, 2) := by decide +kernel
theorem dX5_requireCell_18 : decode cX5_requireCell 18 = .ok (.invokespecial 251, 3) := by decide +kernel
theorem dX5_requireCell_21 : decode cX5_requireCell 21 = .ok (.athrow, 1) := by decide +kernel
theorem dX5_requireCell_22 : decode cX5_requireCell 22 = .ok (.return_, 1) := by decide +kernel
theorem dX5_requirePattern_0 : decode cX5_requirePattern 0 = .ok (.iload_n 1, 1) := by decide +kernel
theorem dX5_requirePattern_1 : decode cX5_requirePattern 1 = .ok (.ifCond .lt 14, 3) := by decide +kernel
theorem dX5_requirePattern_4 : decode cX5_requirePattern 4 = .ok (.iload_n 1, 1) := by decide +kernel
theorem dX5_requirePattern_5 : decode cX5_requirePattern 5 = .ok (.aload_n 0, 1) := by decide +kernel
theorem dX5_requirePattern_6 : decode cX5_requirePattern 6 = .ok (.getfield 12, 3) := by decide +kernel
theorem dX5_requirePattern_9 : decode cX5_requirePattern 9 = .ok (.getfield 111, 3) := by decide +kernel
theorem dX5_requirePattern_12 : decode cX5_requirePattern 12 = .ok (.if_icmp .lt 13, 3) := by decide +kernel
theorem dX5_requirePattern_15 : decode cX5_requirePattern 15 = .ok (.new 247, 3) := by decide +kernel
theorem dX5_requirePattern_18 : decode cX5_requirePattern 18 = .ok (.dup, 1) := by decide +kernel
theorem dX5_requirePattern_19 : decode cX5_requirePattern 19 = .ok (.ldc 252, 2) := by decide +kernel
theorem dX5_requirePattern_21 : decode cX5_requirePattern 21 = .ok (.invokespecial 251, 3) := by decide +kernel
theorem dX5_requirePattern_24 : decode cX5_requirePattern 24 = .ok (.athrow, 1) := by decide +kernel
theorem dX5_requirePattern_25 : decode cX5_requirePattern 25 = .ok (.return_, 1) := by decide +kernel
theorem dX5_requireRange_0 : decode cX5_requireRange 0 = .ok (.iload_n 0, 1) := by decide +kernel
theorem dX5_requireRange_1 : decode cX5_requireRange 1 = .ok (.iload_n 1, 1) := by decide +kernel
theorem dX5_requireRange_2 : decode cX5_requireRange 2 = .ok (.if_icmp .lt 8, 3) := by decide +kernel
theorem dX5_requireRange_5 : decode cX5_requireRange 5 = .ok (.iload_n 0, 1) := by decide +kernel
theorem dX5_requireRange_6 : decode cX5_requireRange 6 = .ok (.iload_n 2, 1) := by decide +kernel
theorem dX5_requireRange_7 : decode cX5_requireRange 7 = .ok (.if_icmp .le 13, 3) := by decide +kernel
theorem dX5_requireRange_10 : decode cX5_requireRange 10 = .ok (.new 117, 3) := by decide +kernel
theorem dX5_requireRange_13 : decode cX5_requireRange 13 = .ok (.dup, 1) := by decide +kernel
theorem dX5_requireRange_14 : decode cX5_requireRange 14 = .ok (.ldc 254, 2) := by decide +kernel
theorem dX5_requireRange_16 : decode cX5_requireRange 16 = .ok (.invokespecial 121, 3) := by decide +kernel
theorem dX5_requireRange_19 : decode cX5_requireRange 19 = .ok (.athrow, 1) := by decide +kernel
theorem dX5_requireRange_20 : decode cX5_requireRange 20 = .ok (.return_, 1) := by decide +kernel
