theorem dX6_init_0 : decode cX6_init 0 = .ok (.aload_n 0, 1) := by decide +kernel
theorem dX6_init_1 : decode cX6_init 1 = .ok (.invokespecial 3, 3) := by decide +kernel
theorem dX6_init_4 : decode cX6_init 4 = .ok (.aload_n 0, 1) := by decide +kernel
theorem dX6_init_5 : decode cX6_init 5 = .ok (.sipush 600, 3) := by decide +kernel
theorem dX6_init_8 : decode cX6_init 8 = .ok (.newarray .int, 2) := by decide +kernel
theorem dX6_init_10 : decode cX6_init 10 = .ok (.putfield 9, 3) := by decide +kernel
theorem dX6_init_13 : decode cX6_init 13 = .ok (.aload_n 0, 1) := by decide +kernel
theorem dX6_init_14 : decode cX6_init 14 = .ok (.iconst (-1), 1) := by decide +kernel
theorem dX6_init_15 : decode cX6_init 15 = .ok (.putfield 13, 3) := by decide +kernel
theorem dX6_init_18 : decode cX6_init 18 = .ok (.aload_n 0, 1) := by decide +kernel
theorem dX6_init_19 : decode cX6_init 19 = .ok (.sipush 746, 3) := by decide +kernel
theorem dX6_init_22 : decode cX6_init 22 = .ok (.newarray .int, 2) := by decide +kernel
theorem dX6_init_24 : decode cX6_init 24 = .ok (.putfield 17, 3) := by decide +kernel
theorem dX6_init_27 : decode cX6_init 27 = .ok (.aload_n 0, 1) := by decide +kernel
theorem dX6_init_28 : decode cX6_init 28 = .ok (.sipush 746, 3) := by decide +kernel
theorem dX6_init_31 : decode cX6_init 31 = .ok (.newarray .int, 2) := by decide +kernel
theorem dX6_init_33 : decode cX6_init 33 = .ok (.putfield 20, 3) := by decide +kernel
theorem dX6_init_36 : decode cX6_init 36 = .ok (.aload_n 0, 1) := by decide +kernel
theorem dX6_init_37 : decode cX6_init 37 = .ok (.sipush 746, 3) := by decide +kernel
theorem dX6_init_40 : decode cX6_init 40 = .ok (.newarray .int, 2) := by decide +kernel
theorem dX6_init_42 : decode cX6_init 42 = .ok (.putfield 23, 3) := by decide +kernel
theorem dX6_init_45 : decode cX6_init 45 = .ok (.aload_n 0, 1) := by decide +kernel
theorem dX6_init_46 : decode cX6_init 46 = .ok (.bipush 8, 2) := by decide +kernel
theorem dX6_init_48 : decode cX6_init 48 = .ok (.sipush 746, 3) := by decide +kernel
theorem dX6_init_51 : decode cX6_init 51 = .ok (.multianewarray 26 2, 4) := by decide +kernel
theorem dX6_init_55 : decode cX6_init 55 = .ok (.putfield 28, 3) := by decide +kernel
theorem dX6_init_58 : decode cX6_init 58 = .ok (.aload_n 0, 1) := by decide +kernel
theorem dX6_init_59 : decode cX6_init 59 = .ok (.sipush 180, 3) := by decide +kernel
theorem dX6_init_62 : decode cX6_init 62 = .ok (.newarray .int, 2) := by decide +kernel
theorem dX6_init_64 : decode cX6_init 64 = .ok (.putfield 31, 3) := by decide +kernel
theorem dX6_init_67 : decode cX6_init 67 = .ok (.aload_n 0, 1) := by decide +kernel
theorem dX6_init_68 : decode cX6_init 68 = .ok (.sipush 180, 3) := by decide +kernel
theorem dX6_init_71 : decode cX6_init 71 = .ok (.newarray .int, 2) := by decide +kernel
theorem dX6_init_73 : decode cX6_init 73 = .ok (.putfield 34, 3) := by decide +kernel
theorem dX6_init_76 : decode cX6_init 76 = .ok (.aload_n 0, 1) := by decide +kernel
theorem dX6_init_77 : decode cX6_init 77 = .ok (.sipush 180, 3) := by decide +kernel
theorem dX6_init_80 : decode cX6_init 80 = .ok (.newarray .int, 2) := by decide +kernel
theorem dX6_init_82 : decode cX6_init 82 = .ok (.putfield 37, 3) := by decide +kernel
theorem dX6_init_85 : decode cX6_init 85 = .ok (.aload_n 0, 1) := by decide +kernel
theorem dX6_init_86 : decode cX6_init 86 = .ok (.sipush 180, 3) := by decide +kernel
theorem dX6_init_89 : decode cX6_init 89 = .ok (.newarray .boolean, 2) := by decide +kernel
theorem dX6_init_91 : decode cX6_init 91 = .ok (.putfield 40, 3) := by decide +kernel
theorem dX6_init_94 : decode cX6_init 94 = .ok (.aload_n 0, 1) := by decide +kernel
theorem dX6_init_95 : decode cX6_init 95 = .ok (.sipush 180, 3) := by decide +kernel
theorem dX6_init_98 : decode cX6_init 98 = .ok (.newarray .int, 2) := by decide +kernel
theorem dX6_init_100 : decode cX6_init 100 = .ok (.putfield 44, 3) := by decide +kernel
theorem dX6_init_103 : decode cX6_init 103 = .ok (.aload_n 0, 1) := by decide +kernel
theorem dX6_init_104 : decode cX6_init 104 = .ok (.getfield 17, 3) := by decide +kernel
theorem dX6_init_107 : decode cX6_init 107 = .ok (.iconst 5, 1) := by decide +kernel
theorem dX6_init_108 : decode cX6_init 108 = .ok (.iconst 5, 1) := by decide +kernel
theorem dX6_init_109 : decode cX6_init 109 = .ok (.invokestatic 47, 3) := by decide +kernel
theorem dX6_init_112 : decode cX6_init 112 = .ok (.return_, 1) := by decide +kernel
theorem dX6_thrown_0 : decode cX6_thrown 0 = .ok (.aload_n 0, 1) := by decide +kernel
theorem dX6_thrown_1 : decode cX6_thrown 1 = .ok (.getfield 51, 3) := by decide +kernel
theorem dX6_thrown_4 : decode cX6_thrown 4 = .ok (.ireturn, 1) := by decide +kernel
theorem dX6_fails_0 : decode cX6_fails 0 = .ok (.iload_n 1, 1) := by decide +kernel
theorem dX6_fails_1 : decode cX6_fails 1 = .ok (.ifCond .eq 15, 3) := by decide +kernel
theorem dX6_fails_4 : decode cX6_fails 4 = .ok (.aload_n 0, 1) := by decide +kernel
theorem dX6_fails_5 : decode cX6_fails 5 = .ok (.getfield 51, 3) := by decide +kernel
theorem dX6_fails_8 : decode cX6_fails 8 = .ok (.ifCond .ne 8, 3) := by decide +kernel
theorem dX6_fails_11 : decode cX6_fails 11 = .ok (.aload_n 0, 1) := by decide +kernel
theorem dX6_fails_12 : decode cX6_fails 12 = .ok (.iload_n 2, 1) := by decide +kernel
theorem dX6_fails_13 : decode cX6_fails 13 = .ok (.putfield 51, 3) := by decide +kernel
theorem dX6_fails_16 : decode cX6_fails 16 = .ok (.aload_n 0, 1) := by decide +kernel
theorem dX6_fails_17 : decode cX6_fails 17 = .ok (.getfield 51, 3) := by decide +kernel
theorem dX6_fails_20 : decode cX6_fails 20 = .ok (.ifCond .eq 7, 3) := by decide +kernel
theorem dX6_fails_23 : decode cX6_fails 23 = .ok (.iconst 1, 1) := by decide +kernel
theorem dX6_fails_24 : decode cX6_fails 24 = .ok (.goto 4, 3) := by decide +kernel
theorem dX6_fails_27 : decode cX6_fails 27 = .ok (.iconst 0, 1) := by decide +kernel
theorem dX6_fails_28 : decode cX6_fails 28 = .ok (.ireturn, 1) := by decide +kernel
theorem dX6_in_0 : decode cX6_in 0 = .ok (.iload_n 0, 1) := by decide +kernel
theorem dX6_in_1 : decode cX6_in 1 = .ok (.iload_n 1, 1) := by decide +kernel
theorem dX6_in_2 : decode cX6_in 2 = .ok (.if_icmp .lt 12, 3) := by decide +kernel
theorem dX6_in_5 : decode cX6_in 5 = .ok (.iload_n 0, 1) := by decide +kernel
theorem dX6_in_6 : decode cX6_in 6 = .ok (.iload_n 2, 1) := by decide +kernel
theorem dX6_in_7 : decode cX6_in 7 = .ok (.if_icmp .gt 7, 3) := by decide +kernel
theorem dX6_in_10 : decode cX6_in 10 = .ok (.iconst 1, 1) := by decide +kernel
theorem dX6_in_11 : decode cX6_in 11 = .ok (.goto 4, 3) := by decide +kernel
theorem dX6_in_14 : decode cX6_in 14 = .ok (.iconst 0, 1) := by decide +kernel
theorem dX6_in_15 : decode cX6_in 15 = .ok (.ireturn, 1) := by decide +kernel
theorem dX6_min_0 : decode cX6_min 0 = .ok (.iload_n 0, 1) := by decide +kernel
theorem dX6_min_1 : decode cX6_min 1 = .ok (.iload_n 1, 1) := by decide +kernel
theorem dX6_min_2 : decode cX6_min 2 = .ok (.if_icmp .ge 7, 3) := by decide +kernel
theorem dX6_min_5 : decode cX6_min 5 = .ok (.iload_n 0, 1) := by decide +kernel
theorem dX6_min_6 : decode cX6_min 6 = .ok (.goto 4, 3) := by decide +kernel
theorem dX6_min_9 : decode cX6_min 9 = .ok (.iload_n 1, 1) := by decide +kernel
theorem dX6_min_10 : decode cX6_min 10 = .ok (.ireturn, 1) := by decide +kernel
theorem dX6_max_0 : decode cX6_max 0 = .ok (.iload_n 0, 1) := by decide +kernel
theorem dX6_max_1 : decode cX6_max 1 = .ok (.iload_n 1, 1) := by decide +kernel
theorem dX6_max_2 : decode cX6_max 2 = .ok (.if_icmp .le 7, 3) := by decide +kernel
theorem dX6_max_5 : decode cX6_max 5 = .ok (.iload_n 0, 1) := by decide +kernel
theorem dX6_max_6 : decode cX6_max 6 = .ok (.goto 4, 3) := by decide +kernel
theorem dX6_max_9 : decode cX6_max 9 = .ok (.iload_n 1, 1) := by decide +kernel
theorem dX6_max_10 : decode cX6_max 10 = .ok (.ireturn, 1) := by decide +kernel
theorem dX6_copy_0 : decode cX6_copy 0 = .ok (.iconst 0, 1) := by decide +kernel
theorem dX6_copy_1 : decode cX6_copy 1 = .ok (.istore_n 2, 1) := by decide +kernel
theorem dX6_copy_2 : decode cX6_copy 2 = .ok (.iload_n 2, 1) := by decide +kernel
theorem dX6_copy_3 : decode cX6_copy 3 = .ok (.sipush 746, 3) := by decide +kernel
theorem dX6_copy_6 : decode cX6_copy 6 = .ok (.if_icmp .ge 15, 3) := by decide +kernel
theorem dX6_copy_9 : decode cX6_copy 9 = .ok (.aload_n 1, 1) := by decide +kernel
theorem dX6_copy_10 : decode cX6_copy 10 = .ok (.iload_n 2, 1) := by decide +kernel
theorem dX6_copy_11 : decode cX6_copy 11 = .ok (.aload_n 0, 1) := by decide +kernel
theorem dX6_copy_12 : decode cX6_copy 12 = .ok (.iload_n 2, 1) := by decide +kernel
theorem dX6_copy_13 : decode cX6_copy 13 = .ok (.iaload, 1) := by decide +kernel
theorem dX6_copy_14 : decode cX6_copy 14 = .ok (.iastore, 1) := by decide +kernel
theorem dX6_copy_15 : decode cX6_copy 15 = .ok (.iinc 2 1, 3) := by decide +kernel
theorem dX6_copy_18 : decode cX6_copy 18 = .ok (.goto (-16), 3) := by decide +kernel
theorem dX6_copy_21 : decode cX6_copy 21 = .ok (.return_, 1) := by decide +kernel
theorem dX6_layKite_0 : decode cX6_layKite 0 = .ok (.iconst 0, 1) := by decide +kernel
theorem dX6_layKite_1 : decode cX6_layKite 1 = .ok (.istore_n 3, 1) := by decide +kernel
theorem dX6_layKite_2 : decode cX6_layKite 2 = .ok (.iload_n 3, 1) := by decide +kernel
theorem dX6_layKite_3 : decode cX6_layKite 3 = .ok (.sipush 746, 3) := by decide +kernel
theorem dX6_layKite_6 : decode cX6_layKite 6 = .ok (.if_icmp .ge 13, 3) := by decide +kernel
theorem dX6_layKite_9 : decode cX6_layKite 9 = .ok (.aload_n 0, 1) := by decide +kernel
theorem dX6_layKite_10 : decode cX6_layKite 10 = .ok (.iload_n 3, 1) := by decide +kernel
theorem dX6_layKite_11 : decode cX6_layKite 11 = .ok (.iconst 0, 1) := by decide +kernel
theorem dX6_layKite_12 : decode cX6_layKite 12 = .ok (.iastore, 1) := by decide +kernel
theorem dX6_layKite_13 : decode cX6_layKite 13 = .ok (.iinc 3 1, 3) := by decide +kernel
theorem dX6_layKite_16 : decode cX6_layKite 16 = .ok (.goto (-14), 3) := by decide +kernel
theorem dX6_layKite_19 : decode cX6_layKite 19 = .ok (.aload_n 0, 1) := by decide +kernel
theorem dX6_layKite_20 : decode cX6_layKite 20 = .ok (.iconst 0, 1) := by decide +kernel
theorem dX6_layKite_21 : decode cX6_layKite 21 = .ok (.iload_n 1, 1) := by decide +kernel
theorem dX6_layKite_22 : decode cX6_layKite 22 = .ok (.iastore, 1) := by decide +kernel
theorem dX6_layKite_23 : decode cX6_layKite 23 = .ok (.aload_n 0, 1) := by decide +kernel
theorem dX6_layKite_24 : decode cX6_layKite 24 = .ok (.iconst 1, 1) := by decide +kernel
theorem dX6_layKite_25 : decode cX6_layKite 25 = .ok (.iload_n 2, 1) := by decide +kernel
theorem dX6_layKite_26 : decode cX6_layKite 26 = .ok (.iastore, 1) := by decide +kernel
theorem dX6_layKite_27 : decode cX6_layKite 27 = .ok (.aload_n 0, 1) := by decide +kernel
theorem dX6_layKite_28 : decode cX6_layKite 28 = .ok (.iconst 3, 1) := by decide +kernel
theorem dX6_layKite_29 : decode cX6_layKite 29 = .ok (.iconst 1, 1) := by decide +kernel
theorem dX6_layKite_30 : decode cX6_layKite 30 = .ok (.iastore, 1) := by decide +kernel
theorem dX6_layKite_31 : decode cX6_layKite 31 = .ok (.aload_n 0, 1) := by decide +kernel
theorem dX6_layKite_32 : decode cX6_layKite 32 = .ok (.iconst 4, 1) := by decide +kernel
theorem dX6_layKite_33 : decode cX6_layKite 33 = .ok (.iconst 5, 1) := by decide +kernel
theorem dX6_layKite_34 : decode cX6_layKite 34 = .ok (.iastore, 1) := by decide +kernel
theorem dX6_layKite_35 : decode cX6_layKite 35 = .ok (.iconst 0, 1) := by decide +kernel
theorem dX6_layKite_36 : decode cX6_layKite 36 = .ok (.istore_n 3, 1) := by decide +kernel
theorem dX6_layKite_37 : decode cX6_layKite 37 = .ok (.iload_n 3, 1) := by decide +kernel
theorem dX6_layKite_38 : decode cX6_layKite 38 = .ok (.bipush 12, 2) := by decide +kernel
theorem dX6_layKite_40 : decode cX6_layKite 40 = .ok (.if_icmp .ge 18, 3) := by decide +kernel
theorem dX6_layKite_43 : decode cX6_layKite 43 = .ok (.aload_n 0, 1) := by decide +kernel
theorem dX6_layKite_44 : decode cX6_layKite 44 = .ok (.bipush 6, 2) := by decide +kernel
theorem dX6_layKite_46 : decode cX6_layKite 46 = .ok (.iload_n 3, 1) := by decide +kernel
theorem dX6_layKite_47 : decode cX6_layKite 47 = .ok (.iadd, 1) := by decide +kernel
theorem dX6_layKite_48 : decode cX6_layKite 48 = .ok (.iload_n 1, 1) := by decide +kernel
theorem dX6_layKite_49 : decode cX6_layKite 49 = .ok (.iconst 2, 1) := by decide +kernel
theorem dX6_layKite_50 : decode cX6_layKite 50 = .ok (.idiv, 1) := by decide +kernel
theorem dX6_layKite_51 : decode cX6_layKite 51 = .ok (.iastore, 1) := by decide +kernel
theorem dX6_layKite_52 : decode cX6_layKite 52 = .ok (.iinc 3 1, 3) := by decide +kernel
theorem dX6_layKite_55 : decode cX6_layKite 55 = .ok (.goto (-18), 3) := by decide +kernel
theorem dX6_layKite_58 : decode cX6_layKite 58 = .ok (.iconst 1, 1) := by decide +kernel
theorem dX6_layKite_59 : decode cX6_layKite 59 = .ok (.istore_n 3, 1) := by decide +kernel
theorem dX6_layKite_60 : decode cX6_layKite 60 = .ok (.iload_n 3, 1) := by decide +kernel
theorem dX6_layKite_61 : decode cX6_layKite 61 = .ok (.bipush 6, 2) := by decide +kernel
theorem dX6_layKite_63 : decode cX6_layKite 63 = .ok (.if_icmp .gt 16, 3) := by decide +kernel
theorem dX6_layKite_66 : decode cX6_layKite 66 = .ok (.aload_n 0, 1) := by decide +kernel
theorem dX6_layKite_67 : decode cX6_layKite 67 = .ok (.bipush 18, 2) := by decide +kernel
theorem dX6_layKite_69 : decode cX6_layKite 69 = .ok (.iload_n 3, 1) := by decide +kernel
theorem dX6_layKite_70 : decode cX6_layKite 70 = .ok (.iadd, 1) := by decide +kernel
theorem dX6_layKite_71 : decode cX6_layKite 71 = .ok (.iconst 2, 1) := by decide +kernel
theorem dX6_layKite_72 : decode cX6_layKite 72 = .ok (.iastore, 1) := by decide +kernel
theorem dX6_layKite_73 : decode cX6_layKite 73 = .ok (.iinc 3 1, 3) := by decide +kernel
theorem dX6_layKite_76 : decode cX6_layKite 76 = .ok (.goto (-16), 3) := by decide +kernel
theorem dX6_layKite_79 : decode cX6_layKite 79 = .ok (.return_, 1) := by decide +kernel
theorem dX6_isSail_0 : decode cX6_isSail 0 = .ok (.iload_n 2, 1) := by decide +kernel
theorem dX6_isSail_1 : decode cX6_isSail 1 = .ok (.iconst 0, 1) := by decide +kernel
theorem dX6_isSail_2 : decode cX6_isSail 2 = .ok (.aload_n 0, 1) := by decide +kernel
theorem dX6_isSail_3 : decode cX6_isSail 3 = .ok (.iconst 1, 1) := by decide +kernel
theorem dX6_isSail_4 : decode cX6_isSail 4 = .ok (.iaload, 1) := by decide +kernel
theorem dX6_isSail_5 : decode cX6_isSail 5 = .ok (.iconst 1, 1) := by decide +kernel
theorem dX6_isSail_6 : decode cX6_isSail 6 = .ok (.isub, 1) := by decide +kernel
theorem dX6_isSail_7 : decode cX6_isSail 7 = .ok (.invokestatic 54, 3) := by decide +kernel
theorem dX6_isSail_10 : decode cX6_isSail 10 = .ok (.ifCond .eq 39, 3) := by decide +kernel
theorem dX6_isSail_13 : decode cX6_isSail 13 = .ok (.iload_n 1, 1) := by decide +kernel
theorem dX6_isSail_14 : decode cX6_isSail 14 = .ok (.iconst 0, 1) := by decide +kernel
theorem dX6_isSail_15 : decode cX6_isSail 15 = .ok (.aload_n 0, 1) := by decide +kernel
theorem dX6_isSail_16 : decode cX6_isSail 16 = .ok (.iconst 0, 1) := by decide +kernel
theorem dX6_isSail_17 : decode cX6_isSail 17 = .ok (.iaload, 1) := by decide +kernel
theorem dX6_isSail_18 : decode cX6_isSail 18 = .ok (.iconst 1, 1) := by decide +kernel
theorem dX6_isSail_19 : decode cX6_isSail 19 = .ok (.isub, 1) := by decide +kernel
theorem dX6_isSail_20 : decode cX6_isSail 20 = .ok (.invokestatic 54, 3) := by decide +kernel
theorem dX6_isSail_23 : decode cX6_isSail 23 = .ok (.ifCond .eq 26, 3) := by decide +kernel
theorem dX6_isSail_26 : decode cX6_isSail 26 = .ok (.iload_n 1, 1) := by decide +kernel
theorem dX6_isSail_27 : decode cX6_isSail 27 = .ok (.aload_n 0, 1) := by decide +kernel
theorem dX6_isSail_28 : decode cX6_isSail 28 = .ok (.iconst 0, 1) := by decide +kernel
theorem dX6_isSail_29 : decode cX6_isSail 29 = .ok (.iaload, 1) := by decide +kernel
theorem dX6_isSail_30 : decode cX6_isSail 30 = .ok (.iconst 2, 1) := by decide +kernel
theorem dX6_isSail_31 : decode cX6_isSail 31 = .ok (.idiv, 1) := by decide +kernel
theorem dX6_isSail_32 : decode cX6_isSail 32 = .ok (.isub, 1) := by decide +kernel
theorem dX6_isSail_33 : decode cX6_isSail 33 = .ok (.invokestatic 58, 3) := by decide +kernel
theorem dX6_isSail_36 : decode cX6_isSail 36 = .ok (.aload_n 0, 1) := by decide +kernel
theorem dX6_isSail_37 : decode cX6_isSail 37 = .ok (.bipush 6, 2) := by decide +kernel
theorem dX6_isSail_39 : decode cX6_isSail 39 = .ok (.iload_n 2, 1) := by decide +kernel
theorem dX6_isSail_40 : decode cX6_isSail 40 = .ok (.iadd, 1) := by decide +kernel
theorem dX6_isSail_41 : decode cX6_isSail 41 = .ok (.iaload, 1) := by decide +kernel
theorem dX6_isSail_42 : decode cX6_isSail 42 = .ok (.if_icmp .gt 7, 3) := by decide +kernel
theorem dX6_isSail_45 : decode cX6_isSail 45 = .ok (.iconst 1, 1) := by decide +kernel
theorem dX6_isSail_46 : decode cX6_isSail 46 = .ok (.goto 4, 3) := by decide +kernel
theorem dX6_isSail_49 : decode cX6_isSail 49 = .ok (.iconst 0, 1) := by decide +kernel
theorem dX6_isSail_50 : decode cX6_isSail 50 = .ok (.ireturn, 1) := by decide +kernel
theorem dX6_append_0 : decode cX6_append 0 = .ok (.aload_n 0, 1) := by decide +kernel
theorem dX6_append_1 : decode cX6_append 1 = .ok (.iconst 0, 1) := by decide +kernel
theorem dX6_append_2 : decode cX6_append 2 = .ok (.putfield 51, 3) := by decide +kernel
theorem dX6_append_5 : decode cX6_append 5 = .ok (.aload_n 0, 1) := by decide +kernel
theorem dX6_append_6 : decode cX6_append 6 = .ok (.getfield 64, 3) := by decide +kernel
theorem dX6_append_9 : decode cX6_append 9 = .ok (.bipush 20, 2) := by decide +kernel
theorem dX6_append_11 : decode cX6_append 11 = .ok (.iadd, 1) := by decide +kernel
theorem dX6_append_12 : decode cX6_append 12 = .ok (.sipush 600, 3) := by decide +kernel
theorem dX6_append_15 : decode cX6_append 15 = .ok (.if_icmp .le 5, 3) := by decide +kernel
theorem dX6_append_18 : decode cX6_append 18 = .ok (.iconst (-1), 1) := by decide +kernel
theorem dX6_append_19 : decode cX6_append 19 = .ok (.ireturn, 1) := by decide +kernel
theorem dX6_append_20 : decode cX6_append 20 = .ok (.iconst 0, 1) := by decide +kernel
theorem dX6_append_21 : decode cX6_append 21 = .ok (.istore 6, 2) := by decide +kernel
theorem dX6_append_23 : decode cX6_append 23 = .ok (.iload 6, 2) := by decide +kernel
theorem dX6_append_25 : decode cX6_append 25 = .ok (.bipush 20, 2) := by decide +kernel
theorem dX6_append_27 : decode cX6_append 27 = .ok (.if_icmp .ge 93, 3) := by decide +kernel
theorem dX6_append_30 : decode cX6_append 30 = .ok (.iload 6, 2) := by decide +kernel
theorem dX6_append_32 : decode cX6_append 32 = .ok (.iconst 4, 1) := by decide +kernel
theorem dX6_append_33 : decode cX6_append 33 = .ok (.if_icmp .ge 7, 3) := by decide +kernel
theorem dX6_append_36 : decode cX6_append 36 = .ok (.iload_n 1, 1) := by decide +kernel
theorem dX6_append_37 : decode cX6_append 37 = .ok (.goto 39, 3) := by decide +kernel
theorem dX6_append_40 : decode cX6_append 40 = .ok (.iload 6, 2) := by decide +kernel
theorem dX6_append_42 : decode cX6_append 42 = .ok (.bipush 8, 2) := by decide +kernel
theorem dX6_append_44 : decode cX6_append 44 = .ok (.if_icmp .ge 7, 3) := by decide +kernel
theorem dX6_append_47 : decode cX6_append 47 = .ok (.iload_n 2, 1) := by decide +kernel
theorem dX6_append_48 : decode cX6_append 48 = .ok (.goto 28, 3) := by decide +kernel
theorem dX6_append_51 : decode cX6_append 51 = .ok (.iload 6, 2) := by decide +kernel
theorem dX6_append_53 : decode cX6_append 53 = .ok (.bipush 12, 2) := by decide +kernel
theorem dX6_append_55 : decode cX6_append 55 = .ok (.if_icmp .ge 7, 3) := by decide +kernel
theorem dX6_append_58 : decode cX6_append 58 = .ok (.iload_n 3, 1) := by decide +kernel
theorem dX6_append_59 : decode cX6_append 59 = .ok (.goto 17, 3) := by decide +kernel
theorem dX6_append_62 : decode cX6_append 62 = .ok (.iload 6, 2) := by decide +kernel
theorem dX6_append_64 : decode cX6_append 64 = .ok (.bipush 16, 2) := by decide +kernel
theorem dX6_append_66 : decode cX6_append 66 = .ok (.if_icmp .ge 8, 3) := by decide +kernel
theorem dX6_append_69 : decode cX6_append 69 = .ok (.iload 4, 2) := by decide +kernel
theorem dX6_append_71 : decode cX6_append 71 = .ok (.goto 5, 3) := by decide +kernel
theorem dX6_append_74 : decode cX6_append 74 = .ok (.iload 5, 2) := by decide +kernel
theorem dX6_append_76 : decode cX6_append 76 = .ok (.istore 7, 2) := by decide +kernel
theorem dX6_append_78 : decode cX6_append 78 = .ok (.aload_n 0, 1) := by decide +kernel
theorem dX6_append_79 : decode cX6_append 79 = .ok (.getfield 9, 3) := by decide +kernel
theorem dX6_append_82 : decode cX6_append 82 = .ok (.aload_n 0, 1) := by decide +kernel
theorem dX6_append_83 : decode cX6_append 83 = .ok (.getfield 64, 3) := by decide +kernel
theorem dX6_append_86 : decode cX6_append 86 = .ok (.iload 7, 2) := by decide +kernel
theorem dX6_append_88 : decode cX6_append 88 = .ok (.bipush 24, 2) := by decide +kernel
theorem dX6_append_90 : decode cX6_append 90 = .ok (.bipush 8, 2) := by decide +kernel
theorem dX6_append_92 : decode cX6_append 92 = .ok (.iload 6, 2) := by decide +kernel
theorem dX6_append_94 : decode cX6_append 94 = .ok (.iconst 4, 1) := by decide +kernel
theorem dX6_append_95 : decode cX6_append 95 = .ok (.irem, 1) := by decide +kernel
theorem dX6_append_96 : decode cX6_append 96 = .ok (.imul, 1) := by decide +kernel
theorem dX6_append_97 : decode cX6_append 97 = .ok (.isub, 1) := by decide +kernel
theorem dX6_append_98 : decode cX6_append 98 = .ok (.ishr, 1) := by decide +kernel
theorem dX6_append_99 : decode cX6_append 99 = .ok (.sipush 255, 3) := by decide +kernel
theorem dX6_append_102 : decode cX6_append 102 = .ok (.iand, 1) := by decide +kernel
theorem dX6_append_103 : decode cX6_append 103 = .ok (.iastore, 1) := by decide +kernel
theorem dX6_append_104 : decode cX6_append 104 = .ok (.aload_n 0, 1) := by decide +kernel
theorem dX6_append_105 : decode cX6_append 105 = .ok (.dup, 1) := by decide +kernel
theorem dX6_append_106 : decode cX6_append 106 = .ok (.getfield 64, 3) := by decide +kernel
theorem dX6_append_109 : decode cX6_append 109 = .ok (.iconst 1, 1) := by decide +kernel
theorem dX6_append_110 : decode cX6_append 110 = .ok (.iadd, 1) := by decide +kernel
theorem dX6_append_111 : decode cX6_append 111 = .ok (.putfield 64, 3) := by decide +kernel
theorem dX6_append_114 : decode cX6_append 114 = .ok (.iinc 6 1, 3) := by decide +kernel
theorem dX6_append_117 : decode cX6_append 117 = .ok (.goto (-94), 3) := by decide +kernel
theorem dX6_append_120 : decode cX6_append 120 = .ok (.aload_n 0, 1) := by decide +kernel
theorem dX6_append_121 : decode cX6_append 121 = .ok (.getfield 64, 3) := by decide +kernel
theorem dX6_append_124 : decode cX6_append 124 = .ok (.ireturn, 1) := by decide +kernel
theorem dX6_byteAt_0 : decode cX6_byteAt 0 = .ok (.iload_n 1, 1) := by decide +kernel
theorem dX6_byteAt_1 : decode cX6_byteAt 1 = .ok (.aload_n 0, 1) := by decide +kernel
theorem dX6_byteAt_2 : decode cX6_byteAt 2 = .ok (.getfield 67, 3) := by decide +kernel
theorem dX6_byteAt_5 : decode cX6_byteAt 5 = .ok (.if_icmp .ge 12, 3) := by decide +kernel
theorem dX6_byteAt_8 : decode cX6_byteAt 8 = .ok (.aload_n 0, 1) := by decide +kernel
theorem dX6_byteAt_9 : decode cX6_byteAt 9 = .ok (.getfield 9, 3) := by decide +kernel
theorem dX6_byteAt_12 : decode cX6_byteAt 12 = .ok (.iload_n 1, 1) := by decide +kernel
theorem dX6_byteAt_13 : decode cX6_byteAt 13 = .ok (.iaload, 1) := by decide +kernel
theorem dX6_byteAt_14 : decode cX6_byteAt 14 = .ok (.goto 4, 3) := by decide +kernel
theorem dX6_byteAt_17 : decode cX6_byteAt 17 = .ok (.iconst (-1), 1) := by decide +kernel
theorem dX6_byteAt_18 : decode cX6_byteAt 18 = .ok (.ireturn, 1) := by decide +kernel
theorem dX6_ahead_0 : decode cX6_ahead 0 = .ok (.aload_n 0, 1) := by decide +kernel
theorem dX6_ahead_1 : decode cX6_ahead 1 = .ok (.aload_n 0, 1) := by decide +kernel
theorem dX6_ahead_2 : decode cX6_ahead 2 = .ok (.getfield 70, 3) := by decide +kernel
theorem dX6_ahead_5 : decode cX6_ahead 5 = .ok (.invokevirtual 73, 3) := by decide +kernel
theorem dX6_ahead_8 : decode cX6_ahead 8 = .ok (.bipush 32, 2) := by decide +kernel
theorem dX6_ahead_10 : decode cX6_ahead 10 = .ok (.if_icmp .ne 16, 3) := by decide +kernel
theorem dX6_ahead_13 : decode cX6_ahead 13 = .ok (.aload_n 0, 1) := by decide +kernel
theorem dX6_ahead_14 : decode cX6_ahead 14 = .ok (.dup, 1) := by decide +kernel
theorem dX6_ahead_15 : decode cX6_ahead 15 = .ok (.getfield 70, 3) := by decide +kernel
theorem dX6_ahead_18 : decode cX6_ahead 18 = .ok (.iconst 1, 1) := by decide +kernel
theorem dX6_ahead_19 : decode cX6_ahead 19 = .ok (.iadd, 1) := by decide +kernel
theorem dX6_ahead_20 : decode cX6_ahead 20 = .ok (.putfield 70, 3) := by decide +kernel
theorem dX6_ahead_23 : decode cX6_ahead 23 = .ok (.goto (-23), 3) := by decide +kernel
theorem dX6_ahead_26 : decode cX6_ahead 26 = .ok (.aload_n 0, 1) := by decide +kernel
theorem dX6_ahead_27 : decode cX6_ahead 27 = .ok (.aload_n 0, 1) := by decide +kernel
theorem dX6_ahead_28 : decode cX6_ahead 28 = .ok (.getfield 70, 3) := by decide +kernel
theorem dX6_ahead_31 : decode cX6_ahead 31 = .ok (.invokevirtual 73, 3) := by decide +kernel
theorem dX6_ahead_34 : decode cX6_ahead 34 = .ok (.ireturn, 1) := by decide +kernel
theorem dX6_isGood_0 : decode cX6_isGood 0 = .ok (.aload_n 0, 1) := by decide +kernel
theorem dX6_isGood_1 : decode cX6_isGood 1 = .ok (.getfield 76, 3) := by decide +kernel
theorem dX6_isGood_4 : decode cX6_isGood 4 = .ok (.ifCond .ne 7, 3) := by decide +kernel
theorem dX6_isGood_7 : decode cX6_isGood 7 = .ok (.iconst 1, 1) := by decide +kernel
theorem dX6_isGood_8 : decode cX6_isGood 8 = .ok (.goto 4, 3) := by decide +kernel
theorem dX6_isGood_11 : decode cX6_isGood 11 = .ok (.iconst 0, 1) := by decide +kernel
theorem dX6_isGood_12 : decode cX6_isGood 12 = .ok (.ireturn, 1) := by decide +kernel
theorem dX6_report_0 : decode cX6_report 0 = .ok (.aload_n 0, 1) := by decide +kernel
theorem dX6_report_1 : decode cX6_report 1 = .ok (.getfield 76, 3) := by decide +kernel
theorem dX6_report_4 : decode cX6_report 4 = .ok (.ifCond .eq 4, 3) := by decide +kernel
theorem dX6_report_7 : decode cX6_report 7 = .ok (.return_, 1) := by decide +kernel
theorem dX6_report_8 : decode cX6_report 8 = .ok (.aload_n 0, 1) := by decide +kernel
theorem dX6_report_9 : decode cX6_report 9 = .ok (.iload_n 1, 1) := by decide +kernel
theorem dX6_report_10 : decode cX6_report 10 = .ok (.putfield 76, 3) := by decide +kernel
theorem dX6_report_13 : decode cX6_report 13 = .ok (.aload_n 0, 1) := by decide +kernel
theorem dX6_report_14 : decode cX6_report 14 = .ok (.iload_n 2, 1) := by decide +kernel
theorem dX6_report_15 : decode cX6_report 15 = .ok (.putfield 79, 3) := by decide +kernel
theorem dX6_report_18 : decode cX6_report 18 = .ok (.return_, 1) := by decide +kernel
theorem dX6_isDigit_0 : decode cX6_isDigit 0 = .ok (.iload_n 0, 1) := by decide +kernel
theorem dX6_isDigit_1 : decode cX6_isDigit 1 = .ok (.bipush 48, 2) := by decide +kernel
theorem dX6_isDigit_3 : decode cX6_isDigit 3 = .ok (.bipush 57, 2) := by decide +kernel
theorem dX6_isDigit_5 : decode cX6_isDigit 5 = .ok (.invokestatic 54, 3) := by decide +kernel
theorem dX6_isDigit_8 : decode cX6_isDigit 8 = .ok (.ireturn, 1) := by decide +kernel
theorem dX6_takeWord_0 : decode cX6_takeWord 0 = .ok (.aload_n 0, 1) := by decide +kernel
theorem dX6_takeWord_1 : decode cX6_takeWord 1 = .ok (.invokevirtual 82, 3) := by decide +kernel
theorem dX6_takeWord_4 : decode cX6_takeWord 4 = .ok (.ifCond .ne 5, 3) := by decide +kernel
theorem dX6_takeWord_7 : decode cX6_takeWord 7 = .ok (.iconst 0, 1) := by decide +kernel
theorem dX6_takeWord_8 : decode cX6_takeWord 8 = .ok (.ireturn, 1) := by decide +kernel
theorem dX6_takeWord_9 : decode cX6_takeWord 9 = .ok (.aload_n 0, 1) := by decide +kernel
theorem dX6_takeWord_10 : decode cX6_takeWord 10 = .ok (.invokevirtual 86, 3) := by decide +kernel
theorem dX6_takeWord_13 : decode cX6_takeWord 13 = .ok (.pop, 1) := by decide +kernel
theorem dX6_takeWord_14 : decode cX6_takeWord 14 = .ok (.iconst 0, 1) := by decide +kernel
theorem dX6_takeWord_15 : decode cX6_takeWord 15 = .ok (.istore_n 2, 1) := by decide +kernel
theorem dX6_takeWord_16 : decode cX6_takeWord 16 = .ok (.iload_n 2, 1) := by decide +kernel
theorem dX6_takeWord_17 : decode cX6_takeWord 17 = .ok (.aload_n 1, 1) := by decide +kernel
theorem dX6_takeWord_18 : decode cX6_takeWord 18 = .ok (.invokevirtual 90, 3) := by decide +kernel
theorem dX6_takeWord_21 : decode cX6_takeWord 21 = .ok (.if_icmp .ge 27, 3) := by decide +kernel
theorem dX6_takeWord_24 : decode cX6_takeWord 24 = .ok (.aload_n 0, 1) := by decide +kernel
theorem dX6_takeWord_25 : decode cX6_takeWord 25 = .ok (.aload_n 0, 1) := by decide +kernel
theorem dX6_takeWord_26 : decode cX6_takeWord 26 = .ok (.getfield 70, 3) := by decide +kernel
theorem dX6_takeWord_29 : decode cX6_takeWord 29 = .ok (.iload_n 2, 1) := by decide +kernel
theorem dX6_takeWord_30 : decode cX6_takeWord 30 = .ok (.iadd, 1) := by decide +kernel
theorem dX6_takeWord_31 : decode cX6_takeWord 31 = .ok (.invokevirtual 73, 3) := by decide +kernel
theorem dX6_takeWord_34 : decode cX6_takeWord 34 = .ok (.aload_n 1, 1) := by decide +kernel
theorem dX6_takeWord_35 : decode cX6_takeWord 35 = .ok (.iload_n 2, 1) := by decide +kernel
theorem dX6_takeWord_36 : decode cX6_takeWord 36 = .ok (.invokevirtual 95, 3) := by decide +kernel
theorem dX6_takeWord_39 : decode cX6_takeWord 39 = .ok (.if_icmp .ne 9, 3) := by decide +kernel
theorem dX6_takeWord_42 : decode cX6_takeWord 42 = .ok (.iinc 2 1, 3) := by decide +kernel
theorem dX6_takeWord_45 : decode cX6_takeWord 45 = .ok (.goto (-29), 3) := by decide +kernel
theorem dX6_takeWord_48 : decode cX6_takeWord 48 = .ok (.iload_n 2, 1) := by decide +kernel
theorem dX6_takeWord_49 : decode cX6_takeWord 49 = .ok (.aload_n 1, 1) := by decide +kernel
theorem dX6_takeWord_50 : decode cX6_takeWord 50 = .ok (.invokevirtual 90, 3) := by decide +kernel
theorem dX6_takeWord_53 : decode cX6_takeWord 53 = .ok (.if_icmp .lt 23, 3) := by decide +kernel
theorem dX6_takeWord_56 : decode cX6_takeWord 56 = .ok (.aload_n 0, 1) := by decide +kernel
theorem dX6_takeWord_57 : decode cX6_takeWord 57 = .ok (.aload_n 0, 1) := by decide +kernel
theorem dX6_takeWord_58 : decode cX6_takeWord 58 = .ok (.getfield 70, 3) := by decide +kernel
theorem dX6_takeWord_61 : decode cX6_takeWord 61 = .ok (.iload_n 2, 1) := by decide +kernel
theorem dX6_takeWord_62 : decode cX6_takeWord 62 = .ok (.iadd, 1) := by decide +kernel
theorem dX6_takeWord_63 : decode cX6_takeWord 63 = .ok (.invokevirtual 73, 3) := by decide +kernel
theorem dX6_takeWord_66 : decode cX6_takeWord 66 = .ok (.bipush 97, 2) := by decide +kernel
theorem dX6_takeWord_68 : decode cX6_takeWord 68 = .ok (.bipush 122, 2) := by decide +kernel
theorem dX6_takeWord_70 : decode cX6_takeWord 70 = .ok (.invokestatic 54, 3) := by decide +kernel
theorem dX6_takeWord_73 : decode cX6_takeWord 73 = .ok (.ifCond .eq 5, 3) := by decide +kernel
theorem dX6_takeWord_76 : decode cX6_takeWord 76 = .ok (.iconst 0, 1) := by decide +kernel
theorem dX6_takeWord_77 : decode cX6_takeWord 77 = .ok (.ireturn, 1) := by decide +kernel
theorem dX6_takeWord_78 : decode cX6_takeWord 78 = .ok (.aload_n 0, 1) := by decide +kernel
theorem dX6_takeWord_79 : decode cX6_takeWord 79 = .ok (.dup, 1) := by decide +kernel
theorem dX6_takeWord_80 : decode cX6_takeWord 80 = .ok (.getfield 70, 3) := by decide +kernel
theorem dX6_takeWord_83 : decode cX6_takeWord 83 = .ok (.iload_n 2, 1) := by decide +kernel
theorem dX6_takeWord_84 : decode cX6_takeWord 84 = .ok (.iadd, 1) := by decide +kernel
theorem dX6_takeWord_85 : decode cX6_takeWord 85 = .ok (.putfield 70, 3) := by decide +kernel
theorem dX6_takeWord_88 : decode cX6_takeWord 88 = .ok (.iconst 1, 1) := by decide +kernel
theorem dX6_takeWord_89 : decode cX6_takeWord 89 = .ok (.ireturn, 1) := by decide +kernel
theorem dX6_expect_0 : decode cX6_expect 0 = .ok (.aload_n 0, 1) := by decide +kernel
theorem dX6_expect_1 : decode cX6_expect 1 = .ok (.invokevirtual 82, 3) := by decide +kernel
theorem dX6_expect_4 : decode cX6_expect 4 = .ok (.ifCond .ne 4, 3) := by decide +kernel
theorem dX6_expect_7 : decode cX6_expect 7 = .ok (.return_, 1) := by decide +kernel
theorem dX6_expect_8 : decode cX6_expect 8 = .ok (.aload_n 0, 1) := by decide +kernel
theorem dX6_expect_9 : decode cX6_expect 9 = .ok (.invokevirtual 86, 3) := by decide +kernel
theorem dX6_expect_12 : decode cX6_expect 12 = .ok (.iload_n 1, 1) := by decide +kernel
theorem dX6_expect_13 : decode cX6_expect 13 = .ok (.if_icmp .ne 16, 3) := by decide +kernel
theorem dX6_expect_16 : decode cX6_expect 16 = .ok (.aload_n 0, 1) := by decide +kernel
theorem dX6_expect_17 : decode cX6_expect 17 = .ok (.dup, 1) := by decide +kernel
theorem dX6_expect_18 : decode cX6_expect 18 = .ok (.getfield 70, 3) := by decide +kernel
theorem dX6_expect_21 : decode cX6_expect 21 = .ok (.iconst 1, 1) := by decide +kernel
theorem dX6_expect_22 : decode cX6_expect 22 = .ok (.iadd, 1) := by decide +kernel
theorem dX6_expect_23 : decode cX6_expect 23 = .ok (.putfield 70, 3) := by decide +kernel
theorem dX6_expect_26 : decode cX6_expect 26 = .ok (.goto 13, 3) := by decide +kernel
theorem dX6_expect_29 : decode cX6_expect 29 = .ok (.aload_n 0, 1) := by decide +kernel
theorem dX6_expect_30 : decode cX6_expect 30 = .ok (.bipush (-2), 2) := by decide +kernel
theorem dX6_expect_32 : decode cX6_expect 32 = .ok (.aload_n 0, 1) := by decide +kernel
theorem dX6_expect_33 : decode cX6_expect 33 = .ok (.getfield 70, 3) := by decide +kernel
theorem dX6_expect_36 : decode cX6_expect 36 = .ok (.invokevirtual 99, 3) := by decide +kernel
theorem dX6_expect_39 : decode cX6_expect 39 = .ok (.return_, 1) := by decide +kernel
theorem dX6_number_0 : decode cX6_number 0 = .ok (.aload_n 0, 1) := by decide +kernel
theorem dX6_number_1 : decode cX6_number 1 = .ok (.invokevirtual 82, 3) := by decide +kernel
theorem dX6_number_4 : decode cX6_number 4 = .ok (.ifCond .ne 5, 3) := by decide +kernel
theorem dX6_number_7 : decode cX6_number 7 = .ok (.iconst 0, 1) := by decide +kernel
theorem dX6_number_8 : decode cX6_number 8 = .ok (.ireturn, 1) := by decide +kernel
theorem dX6_number_9 : decode cX6_number 9 = .ok (.aload_n 0, 1) := by decide +kernel
theorem dX6_number_10 : decode cX6_number 10 = .ok (.invokevirtual 86, 3) := by decide +kernel
theorem dX6_number_13 : decode cX6_number 13 = .ok (.invokestatic 103, 3) := by decide +kernel
theorem dX6_number_16 : decode cX6_number 16 = .ok (.ifCond .ne 15, 3) := by decide +kernel
theorem dX6_number_19 : decode cX6_number 19 = .ok (.aload_n 0, 1) := by decide +kernel
theorem dX6_number_20 : decode cX6_number 20 = .ok (.bipush (-2), 2) := by decide +kernel
theorem dX6_number_22 : decode cX6_number 22 = .ok (.aload_n 0, 1) := by decide +kernel
theorem dX6_number_23 : decode cX6_number 23 = .ok (.getfield 70, 3) := by decide +kernel
theorem dX6_number_26 : decode cX6_number 26 = .ok (.invokevirtual 99, 3) := by decide +kernel
theorem dX6_number_29 : decode cX6_number 29 = .ok (.iconst 0, 1) := by decide +kernel
theorem dX6_number_30 : decode cX6_number 30 = .ok (.ireturn, 1) := by decide +kernel
theorem dX6_number_31 : decode cX6_number 31 = .ok (.aload_n 0, 1) := by decide +kernel
theorem dX6_number_32 : decode cX6_number 32 = .ok (.aload_n 0, 1) := by decide +kernel
theorem dX6_number_33 : decode cX6_number 33 = .ok (.getfield 70, 3) := by decide +kernel
theorem dX6_number_36 : decode cX6_number 36 = .ok (.putfield 107, 3) := by decide +kernel
theorem dX6_number_39 : decode cX6_number 39 = .ok (.iconst 0, 1) := by decide +kernel
theorem dX6_number_40 : decode cX6_number 40 = .ok (.istore_n 3, 1) := by decide +kernel
theorem dX6_number_41 : decode cX6_number 41 = .ok (.aload_n 0, 1) := by decide +kernel
theorem dX6_number_42 : decode cX6_number 42 = .ok (.aload_n 0, 1) := by decide +kernel
theorem dX6_number_43 : decode cX6_number 43 = .ok (.getfield 70, 3) := by decide +kernel
theorem dX6_number_46 : decode cX6_number 46 = .ok (.invokevirtual 73, 3) := by decide +kernel
theorem dX6_number_49 : decode cX6_number 49 = .ok (.invokestatic 103, 3) := by decide +kernel
theorem dX6_number_52 : decode cX6_number 52 = .ok (.ifCond .eq 38, 3) := by decide +kernel
theorem dX6_number_55 : decode cX6_number 55 = .ok (.ldc 110, 2) := by decide +kernel
theorem dX6_number_57 : decode cX6_number 57 = .ok (.bipush 10, 2) := by decide +kernel
theorem dX6_number_59 : decode cX6_number 59 = .ok (.iload_n 3, 1) := by decide +kernel
theorem dX6_number_60 : decode cX6_number 60 = .ok (.imul, 1) := by decide +kernel
theorem dX6_number_61 : decode cX6_number 61 = .ok (.aload_n 0, 1) := by decide +kernel
theorem dX6_number_62 : decode cX6_number 62 = .ok (.aload_n 0, 1) := by decide +kernel
theorem dX6_number_63 : decode cX6_number 63 = .ok (.getfield 70, 3) := by decide +kernel
theorem dX6_number_66 : decode cX6_number 66 = .ok (.invokevirtual 73, 3) := by decide +kernel
theorem dX6_number_69 : decode cX6_number 69 = .ok (.iadd, 1) := by decide +kernel
theorem dX6_number_70 : decode cX6_number 70 = .ok (.bipush 48, 2) := by decide +kernel
theorem dX6_number_72 : decode cX6_number 72 = .ok (.isub, 1) := by decide +kernel
theorem dX6_number_73 : decode cX6_number 73 = .ok (.invokestatic 111, 3) := by decide +kernel
theorem dX6_number_76 : decode cX6_number 76 = .ok (.istore_n 3, 1) := by decide +kernel
theorem dX6_number_77 : decode cX6_number 77 = .ok (.aload_n 0, 1) := by decide +kernel
theorem dX6_number_78 : decode cX6_number 78 = .ok (.dup, 1) := by decide +kernel
theorem dX6_number_79 : decode cX6_number 79 = .ok (.getfield 70, 3) := by decide +kernel
theorem dX6_number_82 : decode cX6_number 82 = .ok (.iconst 1, 1) := by decide +kernel
theorem dX6_number_83 : decode cX6_number 83 = .ok (.iadd, 1) := by decide +kernel
theorem dX6_number_84 : decode cX6_number 84 = .ok (.putfield 70, 3) := by decide +kernel
theorem dX6_number_87 : decode cX6_number 87 = .ok (.goto (-46), 3) := by decide +kernel
theorem dX6_number_90 : decode cX6_number 90 = .ok (.iload_n 3, 1) := by decide +kernel
theorem dX6_number_91 : decode cX6_number 91 = .ok (.iload_n 1, 1) := by decide +kernel
theorem dX6_number_92 : decode cX6_number 92 = .ok (.iload_n 2, 1) := by decide +kernel
theorem dX6_number_93 : decode cX6_number 93 = .ok (.invokestatic 54, 3) := by decide +kernel
theorem dX6_number_96 : decode cX6_number 96 = .ok (.ifCond .ne 13, 3) := by decide +kernel
theorem dX6_number_99 : decode cX6_number 99 = .ok (.aload_n 0, 1) := by decide +kernel
theorem dX6_number_100 : decode cX6_number 100 = .ok (.bipush (-3), 2) := by decide +kernel
theorem dX6_number_102 : decode cX6_number 102 = .ok (.aload_n 0, 1) := by decide +kernel
theorem dX6_number_103 : decode cX6_number 103 = .ok (.getfield 107, 3) := by decide +kernel
theorem dX6_number_106 : decode cX6_number 106 = .ok (.invokevirtual 99, 3) := by decide +kernel
theorem dX6_number_109 : decode cX6_number 109 = .ok (.aload_n 0, 1) := by decide +kernel
theorem dX6_number_110 : decode cX6_number 110 = .ok (.invokevirtual 82, 3) := by decide +kernel
theorem dX6_number_113 : decode cX6_number 113 = .ok (.ifCond .eq 7, 3) := by decide +kernel
theorem dX6_number_116 : decode cX6_number 116 = .ok (.iload_n 3, 1) := by decide +kernel
theorem dX6_number_117 : decode cX6_number 117 = .ok (.goto 4, 3) := by decide +kernel
theorem dX6_number_120 : decode cX6_number 120 = .ok (.iconst 0, 1) := by decide +kernel
theorem dX6_number_121 : decode cX6_number 121 = .ok (.ireturn, 1) := by decide +kernel
theorem dX6_once_0 : decode cX6_once 0 = .ok (.aload_n 0, 1) := by decide +kernel
theorem dX6_once_1 : decode cX6_once 1 = .ok (.getfield 115, 3) := by decide +kernel
theorem dX6_once_4 : decode cX6_once 4 = .ok (.iload_n 1, 1) := by decide +kernel
theorem dX6_once_5 : decode cX6_once 5 = .ok (.ishr, 1) := by decide +kernel
theorem dX6_once_6 : decode cX6_once 6 = .ok (.iconst 1, 1) := by decide +kernel
theorem dX6_once_7 : decode cX6_once 7 = .ok (.iand, 1) := by decide +kernel
theorem dX6_once_8 : decode cX6_once 8 = .ok (.iconst 1, 1) := by decide +kernel
theorem dX6_once_9 : decode cX6_once 9 = .ok (.if_icmp .ne 10, 3) := by decide +kernel
theorem dX6_once_12 : decode cX6_once 12 = .ok (.aload_n 0, 1) := by decide +kernel
theorem dX6_once_13 : decode cX6_once 13 = .ok (.bipush (-2), 2) := by decide +kernel
theorem dX6_once_15 : decode cX6_once 15 = .ok (.iload_n 2, 1) := by decide +kernel
theorem dX6_once_16 : decode cX6_once 16 = .ok (.invokevirtual 99, 3) := by decide +kernel
theorem dX6_once_19 : decode cX6_once 19 = .ok (.aload_n 0, 1) := by decide +kernel
theorem dX6_once_20 : decode cX6_once 20 = .ok (.dup, 1) := by decide +kernel
theorem dX6_once_21 : decode cX6_once 21 = .ok (.getfield 115, 3) := by decide +kernel
theorem dX6_once_24 : decode cX6_once 24 = .ok (.iconst 1, 1) := by decide +kernel
theorem dX6_once_25 : decode cX6_once 25 = .ok (.iload_n 1, 1) := by decide +kernel
theorem dX6_once_26 : decode cX6_once 26 = .ok (.ishl, 1) := by decide +kernel
theorem dX6_once_27 : decode cX6_once 27 = .ok (.ior, 1) := by decide +kernel
theorem dX6_once_28 : decode cX6_once 28 = .ok (.putfield 115, 3) := by decide +kernel
theorem dX6_once_31 : decode cX6_once 31 = .ok (.return_, 1) := by decide +kernel
theorem dX6_readReach_0 : decode cX6_readReach 0 = .ok (.aload_n 0, 1) := by decide +kernel
theorem dX6_readReach_1 : decode cX6_readReach 1 = .ok (.getfield 118, 3) := by decide +kernel
theorem dX6_readReach_4 : decode cX6_readReach 4 = .ok (.ifCond .eq 10, 3) := by decide +kernel
theorem dX6_readReach_7 : decode cX6_readReach 7 = .ok (.aload_n 0, 1) := by decide +kernel
theorem dX6_readReach_8 : decode cX6_readReach 8 = .ok (.bipush (-2), 2) := by decide +kernel
theorem dX6_readReach_10 : decode cX6_readReach 10 = .ok (.iload_n 1, 1) := by decide +kernel
theorem dX6_readReach_11 : decode cX6_readReach 11 = .ok (.invokevirtual 99, 3) := by decide +kernel
theorem dX6_readReach_14 : decode cX6_readReach 14 = .ok (.aload_n 0, 1) := by decide +kernel
theorem dX6_readReach_15 : decode cX6_readReach 15 = .ok (.iconst 0, 1) := by decide +kernel
theorem dX6_readReach_16 : decode cX6_readReach 16 = .ok (.iload_n 1, 1) := by decide +kernel
theorem dX6_readReach_17 : decode cX6_readReach 17 = .ok (.invokevirtual 122, 3) := by decide +kernel
theorem dX6_readReach_20 : decode cX6_readReach 20 = .ok (.iconst 0, 1) := by decide +kernel
theorem dX6_readReach_21 : decode cX6_readReach 21 = .ok (.istore_n 2, 1) := by decide +kernel
theorem dX6_readReach_22 : decode cX6_readReach 22 = .ok (.iload_n 2, 1) := by decide +kernel
theorem dX6_readReach_23 : decode cX6_readReach 23 = .ok (.aload_n 0, 1) := by decide +kernel
theorem dX6_readReach_24 : decode cX6_readReach 24 = .ok (.getfield 20, 3) := by decide +kernel
theorem dX6_readReach_27 : decode cX6_readReach 27 = .ok (.iconst 1, 1) := by decide +kernel
theorem dX6_readReach_28 : decode cX6_readReach 28 = .ok (.iaload, 1) := by decide +kernel
theorem dX6_readReach_29 : decode cX6_readReach 29 = .ok (.if_icmp .ge 31, 3) := by decide +kernel
theorem dX6_readReach_32 : decode cX6_readReach 32 = .ok (.aload_n 0, 1) := by decide +kernel
theorem dX6_readReach_33 : decode cX6_readReach 33 = .ok (.getfield 20, 3) := by decide +kernel
theorem dX6_readReach_36 : decode cX6_readReach 36 = .ok (.bipush 6, 2) := by decide +kernel
theorem dX6_readReach_38 : decode cX6_readReach 38 = .ok (.iload_n 2, 1) := by decide +kernel
theorem dX6_readReach_39 : decode cX6_readReach 39 = .ok (.iadd, 1) := by decide +kernel
theorem dX6_readReach_40 : decode cX6_readReach 40 = .ok (.aload_n 0, 1) := by decide +kernel
theorem dX6_readReach_41 : decode cX6_readReach 41 = .ok (.iconst 0, 1) := by decide +kernel
theorem dX6_readReach_42 : decode cX6_readReach 42 = .ok (.aload_n 0, 1) := by decide +kernel
theorem dX6_readReach_43 : decode cX6_readReach 43 = .ok (.getfield 20, 3) := by decide +kernel
theorem dX6_readReach_46 : decode cX6_readReach 46 = .ok (.iconst 0, 1) := by decide +kernel
theorem dX6_readReach_47 : decode cX6_readReach 47 = .ok (.iaload, 1) := by decide +kernel
theorem dX6_readReach_48 : decode cX6_readReach 48 = .ok (.iconst 2, 1) := by decide +kernel
theorem dX6_readReach_49 : decode cX6_readReach 49 = .ok (.idiv, 1) := by decide +kernel
theorem dX6_readReach_50 : decode cX6_readReach 50 = .ok (.invokevirtual 125, 3) := by decide +kernel
theorem dX6_readReach_53 : decode cX6_readReach 53 = .ok (.iastore, 1) := by decide +kernel
theorem dX6_readReach_54 : decode cX6_readReach 54 = .ok (.iinc 2 1, 3) := by decide +kernel
theorem dX6_readReach_57 : decode cX6_readReach 57 = .ok (.goto (-35), 3) := by decide +kernel
theorem dX6_readReach_60 : decode cX6_readReach 60 = .ok (.return_, 1) := by decide +kernel
theorem dX6_readMix_0 : decode cX6_readMix 0 = .ok (.aload_n 0, 1) := by decide +kernel
theorem dX6_readMix_1 : decode cX6_readMix 1 = .ok (.iconst 1, 1) := by decide +kernel
theorem dX6_readMix_2 : decode cX6_readMix 2 = .ok (.bipush 6, 2) := by decide +kernel
theorem dX6_readMix_4 : decode cX6_readMix 4 = .ok (.invokevirtual 125, 3) := by decide +kernel
theorem dX6_readMix_7 : decode cX6_readMix 7 = .ok (.istore_n 1, 1) := by decide +kernel
theorem dX6_readMix_8 : decode cX6_readMix 8 = .ok (.aload_n 0, 1) := by decide +kernel
theorem dX6_readMix_9 : decode cX6_readMix 9 = .ok (.iconst 1, 1) := by decide +kernel
theorem dX6_readMix_10 : decode cX6_readMix 10 = .ok (.bipush 6, 2) := by decide +kernel
theorem dX6_readMix_12 : decode cX6_readMix 12 = .ok (.invokevirtual 125, 3) := by decide +kernel
theorem dX6_readMix_15 : decode cX6_readMix 15 = .ok (.istore_n 2, 1) := by decide +kernel
theorem dX6_readMix_16 : decode cX6_readMix 16 = .ok (.aload_n 0, 1) := by decide +kernel
theorem dX6_readMix_17 : decode cX6_readMix 17 = .ok (.invokevirtual 82, 3) := by decide +kernel
theorem dX6_readMix_20 : decode cX6_readMix 20 = .ok (.ifCond .eq 18, 3) := by decide +kernel
theorem dX6_readMix_23 : decode cX6_readMix 23 = .ok (.iload_n 1, 1) := by decide +kernel
theorem dX6_readMix_24 : decode cX6_readMix 24 = .ok (.iload_n 2, 1) := by decide +kernel
theorem dX6_readMix_25 : decode cX6_readMix 25 = .ok (.if_icmp .ne 13, 3) := by decide +kernel
theorem dX6_readMix_28 : decode cX6_readMix 28 = .ok (.aload_n 0, 1) := by decide +kernel
theorem dX6_readMix_29 : decode cX6_readMix 29 = .ok (.bipush (-3), 2) := by decide +kernel
theorem dX6_readMix_31 : decode cX6_readMix 31 = .ok (.aload_n 0, 1) := by decide +kernel
theorem dX6_readMix_32 : decode cX6_readMix 32 = .ok (.getfield 107, 3) := by decide +kernel
theorem dX6_readMix_35 : decode cX6_readMix 35 = .ok (.invokevirtual 99, 3) := by decide +kernel
theorem dX6_readMix_38 : decode cX6_readMix 38 = .ok (.aload_n 0, 1) := by decide +kernel
theorem dX6_readMix_39 : decode cX6_readMix 39 = .ok (.invokevirtual 82, 3) := by decide +kernel
theorem dX6_readMix_42 : decode cX6_readMix 42 = .ok (.ifCond .eq 30, 3) := by decide +kernel
theorem dX6_readMix_45 : decode cX6_readMix 45 = .ok (.aload_n 0, 1) := by decide +kernel
theorem dX6_readMix_46 : decode cX6_readMix 46 = .ok (.getfield 20, 3) := by decide +kernel
theorem dX6_readMix_49 : decode cX6_readMix 49 = .ok (.bipush 25, 2) := by decide +kernel
theorem dX6_readMix_51 : decode cX6_readMix 51 = .ok (.bipush 7, 2) := by decide +kernel
theorem dX6_readMix_53 : decode cX6_readMix 53 = .ok (.iload_n 1, 1) := by decide +kernel
theorem dX6_readMix_54 : decode cX6_readMix 54 = .ok (.imul, 1) := by decide +kernel
theorem dX6_readMix_55 : decode cX6_readMix 55 = .ok (.iadd, 1) := by decide +kernel
theorem dX6_readMix_56 : decode cX6_readMix 56 = .ok (.iload_n 2, 1) := by decide +kernel
theorem dX6_readMix_57 : decode cX6_readMix 57 = .ok (.iadd, 1) := by decide +kernel
theorem dX6_readMix_58 : decode cX6_readMix 58 = .ok (.iaload, 1) := by decide +kernel
theorem dX6_readMix_59 : decode cX6_readMix 59 = .ok (.ifCond .eq 13, 3) := by decide +kernel
theorem dX6_readMix_62 : decode cX6_readMix 62 = .ok (.aload_n 0, 1) := by decide +kernel
theorem dX6_readMix_63 : decode cX6_readMix 63 = .ok (.bipush (-4), 2) := by decide +kernel
theorem dX6_readMix_65 : decode cX6_readMix 65 = .ok (.aload_n 0, 1) := by decide +kernel
theorem dX6_readMix_66 : decode cX6_readMix 66 = .ok (.getfield 107, 3) := by decide +kernel
theorem dX6_readMix_69 : decode cX6_readMix 69 = .ok (.invokevirtual 99, 3) := by decide +kernel
theorem dX6_readMix_72 : decode cX6_readMix 72 = .ok (.aload_n 0, 1) := by decide +kernel
theorem dX6_readMix_73 : decode cX6_readMix 73 = .ok (.iconst 1, 1) := by decide +kernel
theorem dX6_readMix_74 : decode cX6_readMix 74 = .ok (.bipush 6, 2) := by decide +kernel
theorem dX6_readMix_76 : decode cX6_readMix 76 = .ok (.invokevirtual 125, 3) := by decide +kernel
theorem dX6_readMix_79 : decode cX6_readMix 79 = .ok (.istore_n 3, 1) := by decide +kernel
theorem dX6_readMix_80 : decode cX6_readMix 80 = .ok (.aload_n 0, 1) := by decide +kernel
theorem dX6_readMix_81 : decode cX6_readMix 81 = .ok (.invokevirtual 82, 3) := by decide +kernel
theorem dX6_readMix_84 : decode cX6_readMix 84 = .ok (.ifCond .ne 4, 3) := by decide +kernel
theorem dX6_readMix_87 : decode cX6_readMix 87 = .ok (.return_, 1) := by decide +kernel
theorem dX6_readMix_88 : decode cX6_readMix 88 = .ok (.aload_n 0, 1) := by decide +kernel
theorem dX6_readMix_89 : decode cX6_readMix 89 = .ok (.getfield 20, 3) := by decide +kernel
theorem dX6_readMix_92 : decode cX6_readMix 92 = .ok (.bipush 25, 2) := by decide +kernel
theorem dX6_readMix_94 : decode cX6_readMix 94 = .ok (.bipush 7, 2) := by decide +kernel
theorem dX6_readMix_96 : decode cX6_readMix 96 = .ok (.iload_n 1, 1) := by decide +kernel
theorem dX6_readMix_97 : decode cX6_readMix 97 = .ok (.imul, 1) := by decide +kernel
theorem dX6_readMix_98 : decode cX6_readMix 98 = .ok (.iadd, 1) := by decide +kernel
theorem dX6_readMix_99 : decode cX6_readMix 99 = .ok (.iload_n 2, 1) := by decide +kernel
theorem dX6_readMix_100 : decode cX6_readMix 100 = .ok (.iadd, 1) := by decide +kernel
theorem dX6_readMix_101 : decode cX6_readMix 101 = .ok (.iload_n 3, 1) := by decide +kernel
theorem dX6_readMix_102 : decode cX6_readMix 102 = .ok (.iastore, 1) := by decide +kernel
theorem dX6_readMix_103 : decode cX6_readMix 103 = .ok (.aload_n 0, 1) := by decide +kernel
theorem dX6_readMix_104 : decode cX6_readMix 104 = .ok (.getfield 20, 3) := by decide +kernel
theorem dX6_readMix_107 : decode cX6_readMix 107 = .ok (.bipush 25, 2) := by decide +kernel
theorem dX6_readMix_109 : decode cX6_readMix 109 = .ok (.bipush 7, 2) := by decide +kernel
theorem dX6_readMix_111 : decode cX6_readMix 111 = .ok (.iload_n 2, 1) := by decide +kernel
theorem dX6_readMix_112 : decode cX6_readMix 112 = .ok (.imul, 1) := by decide +kernel
theorem dX6_readMix_113 : decode cX6_readMix 113 = .ok (.iadd, 1) := by decide +kernel
theorem dX6_readMix_114 : decode cX6_readMix 114 = .ok (.iload_n 1, 1) := by decide +kernel
theorem dX6_readMix_115 : decode cX6_readMix 115 = .ok (.iadd, 1) := by decide +kernel
theorem dX6_readMix_116 : decode cX6_readMix 116 = .ok (.iload_n 3, 1) := by decide +kernel
theorem dX6_readMix_117 : decode cX6_readMix 117 = .ok (.iastore, 1) := by decide +kernel
theorem dX6_readMix_118 : decode cX6_readMix 118 = .ok (.return_, 1) := by decide +kernel
theorem dX6_readSpar_0 : decode cX6_readSpar 0 = .ok (.aload_n 0, 1) := by decide +kernel
theorem dX6_readSpar_1 : decode cX6_readSpar 1 = .ok (.invokevirtual 82, 3) := by decide +kernel
theorem dX6_readSpar_4 : decode cX6_readSpar 4 = .ok (.ifCond .ne 4, 3) := by decide +kernel
theorem dX6_readSpar_7 : decode cX6_readSpar 7 = .ok (.return_, 1) := by decide +kernel
theorem dX6_readSpar_8 : decode cX6_readSpar 8 = .ok (.aload_n 0, 1) := by decide +kernel
theorem dX6_readSpar_9 : decode cX6_readSpar 9 = .ok (.iconst 1, 1) := by decide +kernel
theorem dX6_readSpar_10 : decode cX6_readSpar 10 = .ok (.putfield 118, 3) := by decide +kernel
theorem dX6_readSpar_13 : decode cX6_readSpar 13 = .ok (.aload_n 0, 1) := by decide +kernel
theorem dX6_readSpar_14 : decode cX6_readSpar 14 = .ok (.ldc 128, 2) := by decide +kernel
theorem dX6_readSpar_16 : decode cX6_readSpar 16 = .ok (.invokevirtual 130, 3) := by decide +kernel
theorem dX6_readSpar_19 : decode cX6_readSpar 19 = .ok (.istore_n 1, 1) := by decide +kernel
theorem dX6_readSpar_20 : decode cX6_readSpar 20 = .ok (.iload_n 1, 1) := by decide +kernel
theorem dX6_readSpar_21 : decode cX6_readSpar 21 = .ok (.ifCond .ne 22, 3) := by decide +kernel
theorem dX6_readSpar_24 : decode cX6_readSpar 24 = .ok (.aload_n 0, 1) := by decide +kernel
theorem dX6_readSpar_25 : decode cX6_readSpar 25 = .ok (.ldc 134, 2) := by decide +kernel
theorem dX6_readSpar_27 : decode cX6_readSpar 27 = .ok (.invokevirtual 130, 3) := by decide +kernel
theorem dX6_readSpar_30 : decode cX6_readSpar 30 = .ok (.ifCond .ne 13, 3) := by decide +kernel
theorem dX6_readSpar_33 : decode cX6_readSpar 33 = .ok (.aload_n 0, 1) := by decide +kernel
theorem dX6_readSpar_34 : decode cX6_readSpar 34 = .ok (.bipush (-2), 2) := by decide +kernel
theorem dX6_readSpar_36 : decode cX6_readSpar 36 = .ok (.aload_n 0, 1) := by decide +kernel
theorem dX6_readSpar_37 : decode cX6_readSpar 37 = .ok (.getfield 70, 3) := by decide +kernel
theorem dX6_readSpar_40 : decode cX6_readSpar 40 = .ok (.invokevirtual 99, 3) := by decide +kernel
theorem dX6_readSpar_43 : decode cX6_readSpar 43 = .ok (.aload_n 0, 1) := by decide +kernel
theorem dX6_readSpar_44 : decode cX6_readSpar 44 = .ok (.iconst 0, 1) := by decide +kernel
theorem dX6_readSpar_45 : decode cX6_readSpar 45 = .ok (.aload_n 0, 1) := by decide +kernel
theorem dX6_readSpar_46 : decode cX6_readSpar 46 = .ok (.getfield 20, 3) := by decide +kernel
theorem dX6_readSpar_49 : decode cX6_readSpar 49 = .ok (.iconst 0, 1) := by decide +kernel
theorem dX6_readSpar_50 : decode cX6_readSpar 50 = .ok (.iaload, 1) := by decide +kernel
theorem dX6_readSpar_51 : decode cX6_readSpar 51 = .ok (.iconst 1, 1) := by decide +kernel
theorem dX6_readSpar_52 : decode cX6_readSpar 52 = .ok (.isub, 1) := by decide +kernel
theorem dX6_readSpar_53 : decode cX6_readSpar 53 = .ok (.invokevirtual 125, 3) := by decide +kernel
theorem dX6_readSpar_56 : decode cX6_readSpar 56 = .ok (.istore_n 2, 1) := by decide +kernel
theorem dX6_readSpar_57 : decode cX6_readSpar 57 = .ok (.aload_n 0, 1) := by decide +kernel
theorem dX6_readSpar_58 : decode cX6_readSpar 58 = .ok (.iconst 0, 1) := by decide +kernel
theorem dX6_readSpar_59 : decode cX6_readSpar 59 = .ok (.aload_n 0, 1) := by decide +kernel
theorem dX6_readSpar_60 : decode cX6_readSpar 60 = .ok (.getfield 20, 3) := by decide +kernel
theorem dX6_readSpar_63 : decode cX6_readSpar 63 = .ok (.iconst 1, 1) := by decide +kernel
theorem dX6_readSpar_64 : decode cX6_readSpar 64 = .ok (.iaload, 1) := by decide +kernel
theorem dX6_readSpar_65 : decode cX6_readSpar 65 = .ok (.iconst 1, 1) := by decide +kernel
theorem dX6_readSpar_66 : decode cX6_readSpar 66 = .ok (.isub, 1) := by decide +kernel
theorem dX6_readSpar_67 : decode cX6_readSpar 67 = .ok (.invokevirtual 125, 3) := by decide +kernel
theorem dX6_readSpar_70 : decode cX6_readSpar 70 = .ok (.istore_n 3, 1) := by decide +kernel
theorem dX6_readSpar_71 : decode cX6_readSpar 71 = .ok (.aload_n 0, 1) := by decide +kernel
theorem dX6_readSpar_72 : decode cX6_readSpar 72 = .ok (.iconst 1, 1) := by decide +kernel
theorem dX6_readSpar_73 : decode cX6_readSpar 73 = .ok (.bipush 15, 2) := by decide +kernel
theorem dX6_readSpar_75 : decode cX6_readSpar 75 = .ok (.invokevirtual 125, 3) := by decide +kernel
theorem dX6_readSpar_78 : decode cX6_readSpar 78 = .ok (.istore 4, 2) := by decide +kernel
theorem dX6_readSpar_80 : decode cX6_readSpar 80 = .ok (.iconst 0, 1) := by decide +kernel
theorem dX6_readSpar_81 : decode cX6_readSpar 81 = .ok (.istore 5, 2) := by decide +kernel
theorem dX6_readSpar_83 : decode cX6_readSpar 83 = .ok (.iload 5, 2) := by decide +kernel
theorem dX6_readSpar_85 : decode cX6_readSpar 85 = .ok (.iload 4, 2) := by decide +kernel
theorem dX6_readSpar_87 : decode cX6_readSpar 87 = .ok (.if_icmp .ge 80, 3) := by decide +kernel
theorem dX6_readSpar_90 : decode cX6_readSpar 90 = .ok (.aload_n 0, 1) := by decide +kernel
theorem dX6_readSpar_91 : decode cX6_readSpar 91 = .ok (.invokevirtual 82, 3) := by decide +kernel
theorem dX6_readSpar_94 : decode cX6_readSpar 94 = .ok (.ifCond .eq 73, 3) := by decide +kernel
theorem dX6_readSpar_97 : decode cX6_readSpar 97 = .ok (.iload_n 1, 1) := by decide +kernel
theorem dX6_readSpar_98 : decode cX6_readSpar 98 = .ok (.ifCond .eq 7, 3) := by decide +kernel
theorem dX6_readSpar_101 : decode cX6_readSpar 101 = .ok (.iload_n 2, 1) := by decide +kernel
theorem dX6_readSpar_102 : decode cX6_readSpar 102 = .ok (.goto 7, 3) := by decide +kernel
theorem dX6_readSpar_105 : decode cX6_readSpar 105 = .ok (.iload_n 2, 1) := by decide +kernel
theorem dX6_readSpar_106 : decode cX6_readSpar 106 = .ok (.iload 5, 2) := by decide +kernel
theorem dX6_readSpar_108 : decode cX6_readSpar 108 = .ok (.iadd, 1) := by decide +kernel
theorem dX6_readSpar_109 : decode cX6_readSpar 109 = .ok (.istore 6, 2) := by decide +kernel
theorem dX6_readSpar_111 : decode cX6_readSpar 111 = .ok (.iload_n 1, 1) := by decide +kernel
theorem dX6_readSpar_112 : decode cX6_readSpar 112 = .ok (.ifCond .eq 10, 3) := by decide +kernel
theorem dX6_readSpar_115 : decode cX6_readSpar 115 = .ok (.iload_n 3, 1) := by decide +kernel
theorem dX6_readSpar_116 : decode cX6_readSpar 116 = .ok (.iload 5, 2) := by decide +kernel
theorem dX6_readSpar_118 : decode cX6_readSpar 118 = .ok (.iadd, 1) := by decide +kernel
theorem dX6_readSpar_119 : decode cX6_readSpar 119 = .ok (.goto 4, 3) := by decide +kernel
theorem dX6_readSpar_122 : decode cX6_readSpar 122 = .ok (.iload_n 3, 1) := by decide +kernel
theorem dX6_readSpar_123 : decode cX6_readSpar 123 = .ok (.istore 7, 2) := by decide +kernel
theorem dX6_readSpar_125 : decode cX6_readSpar 125 = .ok (.aload_n 0, 1) := by decide +kernel
theorem dX6_readSpar_126 : decode cX6_readSpar 126 = .ok (.getfield 20, 3) := by decide +kernel
theorem dX6_readSpar_129 : decode cX6_readSpar 129 = .ok (.iload 6, 2) := by decide +kernel
theorem dX6_readSpar_131 : decode cX6_readSpar 131 = .ok (.iload 7, 2) := by decide +kernel
theorem dX6_readSpar_133 : decode cX6_readSpar 133 = .ok (.invokestatic 136, 3) := by decide +kernel
theorem dX6_readSpar_136 : decode cX6_readSpar 136 = .ok (.ifCond .eq 25, 3) := by decide +kernel
theorem dX6_readSpar_139 : decode cX6_readSpar 139 = .ok (.aload_n 0, 1) := by decide +kernel
theorem dX6_readSpar_140 : decode cX6_readSpar 140 = .ok (.getfield 20, 3) := by decide +kernel
theorem dX6_readSpar_143 : decode cX6_readSpar 143 = .ok (.sipush 434, 3) := by decide +kernel
theorem dX6_readSpar_146 : decode cX6_readSpar 146 = .ok (.iload 7, 2) := by decide +kernel
theorem dX6_readSpar_148 : decode cX6_readSpar 148 = .ok (.aload_n 0, 1) := by decide +kernel
theorem dX6_readSpar_149 : decode cX6_readSpar 149 = .ok (.getfield 20, 3) := by decide +kernel
theorem dX6_readSpar_152 : decode cX6_readSpar 152 = .ok (.iconst 0, 1) := by decide +kernel
theorem dX6_readSpar_153 : decode cX6_readSpar 153 = .ok (.iaload, 1) := by decide +kernel
theorem dX6_readSpar_154 : decode cX6_readSpar 154 = .ok (.imul, 1) := by decide +kernel
theorem dX6_readSpar_155 : decode cX6_readSpar 155 = .ok (.iadd, 1) := by decide +kernel
theorem dX6_readSpar_156 : decode cX6_readSpar 156 = .ok (.iload 6, 2) := by decide +kernel
theorem dX6_readSpar_158 : decode cX6_readSpar 158 = .ok (.iadd, 1) := by decide +kernel
theorem dX6_readSpar_159 : decode cX6_readSpar 159 = .ok (.iconst 1, 1) := by decide +kernel
theorem dX6_readSpar_160 : decode cX6_readSpar 160 = .ok (.iastore, 1) := by decide +kernel
theorem dX6_readSpar_161 : decode cX6_readSpar 161 = .ok (.iinc 5 1, 3) := by decide +kernel
theorem dX6_readSpar_164 : decode cX6_readSpar 164 = .ok (.goto (-81), 3) := by decide +kernel
theorem dX6_readSpar_167 : decode cX6_readSpar 167 = .ok (.return_, 1) := by decide +kernel
theorem dX6_readLine_0 : decode cX6_readLine 0 = .ok (.aload_n 0, 1) := by decide +kernel
theorem dX6_readLine_1 : decode cX6_readLine 1 = .ok (.invokevirtual 86, 3) := by decide +kernel
theorem dX6_readLine_4 : decode cX6_readLine 4 = .ok (.invokestatic 103, 3) := by decide +kernel
theorem dX6_readLine_7 : decode cX6_readLine 7 = .ok (.ifCond .ne 13, 3) := by decide +kernel
theorem dX6_readLine_10 : decode cX6_readLine 10 = .ok (.aload_n 0, 1) := by decide +kernel
theorem dX6_readLine_11 : decode cX6_readLine 11 = .ok (.bipush (-2), 2) := by decide +kernel
theorem dX6_readLine_13 : decode cX6_readLine 13 = .ok (.aload_n 0, 1) := by decide +kernel
theorem dX6_readLine_14 : decode cX6_readLine 14 = .ok (.getfield 70, 3) := by decide +kernel
theorem dX6_readLine_17 : decode cX6_readLine 17 = .ok (.invokevirtual 99, 3) := by decide +kernel
theorem dX6_readLine_20 : decode cX6_readLine 20 = .ok (.aload_n 0, 1) := by decide +kernel
theorem dX6_readLine_21 : decode cX6_readLine 21 = .ok (.invokevirtual 82, 3) := by decide +kernel
theorem dX6_readLine_24 : decode cX6_readLine 24 = .ok (.ifCond .ne 4, 3) := by decide +kernel
theorem dX6_readLine_27 : decode cX6_readLine 27 = .ok (.return_, 1) := by decide +kernel
theorem dX6_readLine_28 : decode cX6_readLine 28 = .ok (.aload_n 0, 1) := by decide +kernel
theorem dX6_readLine_29 : decode cX6_readLine 29 = .ok (.getfield 70, 3) := by decide +kernel
theorem dX6_readLine_32 : decode cX6_readLine 32 = .ok (.istore_n 2, 1) := by decide +kernel
theorem dX6_readLine_33 : decode cX6_readLine 33 = .ok (.iconst 0, 1) := by decide +kernel
theorem dX6_readLine_34 : decode cX6_readLine 34 = .ok (.istore_n 3, 1) := by decide +kernel
theorem dX6_readLine_35 : decode cX6_readLine 35 = .ok (.aload_n 0, 1) := by decide +kernel
theorem dX6_readLine_36 : decode cX6_readLine 36 = .ok (.getfield 20, 3) := by decide +kernel
theorem dX6_readLine_39 : decode cX6_readLine 39 = .ok (.iload_n 1, 1) := by decide +kernel
theorem dX6_readLine_40 : decode cX6_readLine 40 = .ok (.iconst 1, 1) := by decide +kernel
theorem dX6_readLine_41 : decode cX6_readLine 41 = .ok (.iadd, 1) := by decide +kernel
theorem dX6_readLine_42 : decode cX6_readLine 42 = .ok (.iaload, 1) := by decide +kernel
theorem dX6_readLine_43 : decode cX6_readLine 43 = .ok (.istore 4, 2) := by decide +kernel
theorem dX6_readLine_45 : decode cX6_readLine 45 = .ok (.aload_n 0, 1) := by decide +kernel
theorem dX6_readLine_46 : decode cX6_readLine 46 = .ok (.aload_n 0, 1) := by decide +kernel
theorem dX6_readLine_47 : decode cX6_readLine 47 = .ok (.getfield 70, 3) := by decide +kernel
theorem dX6_readLine_50 : decode cX6_readLine 50 = .ok (.iload_n 3, 1) := by decide +kernel
theorem dX6_readLine_51 : decode cX6_readLine 51 = .ok (.iadd, 1) := by decide +kernel
theorem dX6_readLine_52 : decode cX6_readLine 52 = .ok (.invokevirtual 73, 3) := by decide +kernel
theorem dX6_readLine_55 : decode cX6_readLine 55 = .ok (.invokestatic 103, 3) := by decide +kernel
theorem dX6_readLine_58 : decode cX6_readLine 58 = .ok (.ifCond .eq 9, 3) := by decide +kernel
theorem dX6_readLine_61 : decode cX6_readLine 61 = .ok (.iinc 3 1, 3) := by decide +kernel
theorem dX6_readLine_64 : decode cX6_readLine 64 = .ok (.goto (-19), 3) := by decide +kernel
theorem dX6_readLine_67 : decode cX6_readLine 67 = .ok (.iload_n 3, 1) := by decide +kernel
theorem dX6_readLine_68 : decode cX6_readLine 68 = .ok (.bipush 7, 2) := by decide +kernel
theorem dX6_readLine_70 : decode cX6_readLine 70 = .ok (.if_icmp .gt 20, 3) := by decide +kernel
theorem dX6_readLine_73 : decode cX6_readLine 73 = .ok (.iload 4, 2) := by decide +kernel
theorem dX6_readLine_75 : decode cX6_readLine 75 = .ok (.ifCond .le 22, 3) := by decide +kernel
theorem dX6_readLine_78 : decode cX6_readLine 78 = .ok (.iload_n 3, 1) := by decide +kernel
theorem dX6_readLine_79 : decode cX6_readLine 79 = .ok (.aload_n 0, 1) := by decide +kernel
theorem dX6_readLine_80 : decode cX6_readLine 80 = .ok (.getfield 20, 3) := by decide +kernel
theorem dX6_readLine_83 : decode cX6_readLine 83 = .ok (.iload_n 1, 1) := by decide +kernel
theorem dX6_readLine_84 : decode cX6_readLine 84 = .ok (.iconst 0, 1) := by decide +kernel
theorem dX6_readLine_85 : decode cX6_readLine 85 = .ok (.iadd, 1) := by decide +kernel
theorem dX6_readLine_86 : decode cX6_readLine 86 = .ok (.iaload, 1) := by decide +kernel
theorem dX6_readLine_87 : decode cX6_readLine 87 = .ok (.if_icmp .eq 10, 3) := by decide +kernel
theorem dX6_readLine_90 : decode cX6_readLine 90 = .ok (.aload_n 0, 1) := by decide +kernel
theorem dX6_readLine_91 : decode cX6_readLine 91 = .ok (.bipush (-3), 2) := by decide +kernel
theorem dX6_readLine_93 : decode cX6_readLine 93 = .ok (.iload_n 2, 1) := by decide +kernel
theorem dX6_readLine_94 : decode cX6_readLine 94 = .ok (.invokevirtual 99, 3) := by decide +kernel
theorem dX6_readLine_97 : decode cX6_readLine 97 = .ok (.aload_n 0, 1) := by decide +kernel
theorem dX6_readLine_98 : decode cX6_readLine 98 = .ok (.iload_n 2, 1) := by decide +kernel
theorem dX6_readLine_99 : decode cX6_readLine 99 = .ok (.invokevirtual 73, 3) := by decide +kernel
theorem dX6_readLine_102 : decode cX6_readLine 102 = .ok (.bipush 48, 2) := by decide +kernel
theorem dX6_readLine_104 : decode cX6_readLine 104 = .ok (.isub, 1) := by decide +kernel
theorem dX6_readLine_105 : decode cX6_readLine 105 = .ok (.bipush 6, 2) := by decide +kernel
theorem dX6_readLine_107 : decode cX6_readLine 107 = .ok (.if_icmp .le 10, 3) := by decide +kernel
theorem dX6_readLine_110 : decode cX6_readLine 110 = .ok (.aload_n 0, 1) := by decide +kernel
theorem dX6_readLine_111 : decode cX6_readLine 111 = .ok (.bipush (-3), 2) := by decide +kernel
theorem dX6_readLine_113 : decode cX6_readLine 113 = .ok (.iload_n 2, 1) := by decide +kernel
theorem dX6_readLine_114 : decode cX6_readLine 114 = .ok (.invokevirtual 99, 3) := by decide +kernel
theorem dX6_readLine_117 : decode cX6_readLine 117 = .ok (.iload 4, 2) := by decide +kernel
theorem dX6_readLine_119 : decode cX6_readLine 119 = .ok (.bipush 6, 2) := by decide +kernel
theorem dX6_readLine_121 : decode cX6_readLine 121 = .ok (.if_icmp .ne 10, 3) := by decide +kernel
theorem dX6_readLine_124 : decode cX6_readLine 124 = .ok (.aload_n 0, 1) := by decide +kernel
theorem dX6_readLine_125 : decode cX6_readLine 125 = .ok (.bipush (-5), 2) := by decide +kernel
theorem dX6_readLine_127 : decode cX6_readLine 127 = .ok (.iload_n 2, 1) := by decide +kernel
theorem dX6_readLine_128 : decode cX6_readLine 128 = .ok (.invokevirtual 99, 3) := by decide +kernel
theorem dX6_readLine_131 : decode cX6_readLine 131 = .ok (.iconst 0, 1) := by decide +kernel
theorem dX6_readLine_132 : decode cX6_readLine 132 = .ok (.istore 5, 2) := by decide +kernel
theorem dX6_readLine_134 : decode cX6_readLine 134 = .ok (.iload 5, 2) := by decide +kernel
theorem dX6_readLine_136 : decode cX6_readLine 136 = .ok (.iload_n 3, 1) := by decide +kernel
theorem dX6_readLine_137 : decode cX6_readLine 137 = .ok (.if_icmp .ge 65, 3) := by decide +kernel
theorem dX6_readLine_140 : decode cX6_readLine 140 = .ok (.aload_n 0, 1) := by decide +kernel
theorem dX6_readLine_141 : decode cX6_readLine 141 = .ok (.invokevirtual 82, 3) := by decide +kernel
theorem dX6_readLine_144 : decode cX6_readLine 144 = .ok (.ifCond .eq 58, 3) := by decide +kernel
theorem dX6_readLine_147 : decode cX6_readLine 147 = .ok (.aload_n 0, 1) := by decide +kernel
theorem dX6_readLine_148 : decode cX6_readLine 148 = .ok (.iload_n 2, 1) := by decide +kernel
theorem dX6_readLine_149 : decode cX6_readLine 149 = .ok (.iload 5, 2) := by decide +kernel
theorem dX6_readLine_151 : decode cX6_readLine 151 = .ok (.iadd, 1) := by decide +kernel
theorem dX6_readLine_152 : decode cX6_readLine 152 = .ok (.invokevirtual 73, 3) := by decide +kernel
theorem dX6_readLine_155 : decode cX6_readLine 155 = .ok (.bipush 48, 2) := by decide +kernel
theorem dX6_readLine_157 : decode cX6_readLine 157 = .ok (.isub, 1) := by decide +kernel
theorem dX6_readLine_158 : decode cX6_readLine 158 = .ok (.istore 6, 2) := by decide +kernel
theorem dX6_readLine_160 : decode cX6_readLine 160 = .ok (.iload 6, 2) := by decide +kernel
theorem dX6_readLine_162 : decode cX6_readLine 162 = .ok (.bipush 6, 2) := by decide +kernel
theorem dX6_readLine_164 : decode cX6_readLine 164 = .ok (.if_icmp .le 13, 3) := by decide +kernel
theorem dX6_readLine_167 : decode cX6_readLine 167 = .ok (.aload_n 0, 1) := by decide +kernel
theorem dX6_readLine_168 : decode cX6_readLine 168 = .ok (.bipush (-3), 2) := by decide +kernel
theorem dX6_readLine_170 : decode cX6_readLine 170 = .ok (.iload_n 2, 1) := by decide +kernel
theorem dX6_readLine_171 : decode cX6_readLine 171 = .ok (.iload 5, 2) := by decide +kernel
theorem dX6_readLine_173 : decode cX6_readLine 173 = .ok (.iadd, 1) := by decide +kernel
theorem dX6_readLine_174 : decode cX6_readLine 174 = .ok (.invokevirtual 99, 3) := by decide +kernel
theorem dX6_readLine_177 : decode cX6_readLine 177 = .ok (.aload_n 0, 1) := by decide +kernel
theorem dX6_readLine_178 : decode cX6_readLine 178 = .ok (.getfield 20, 3) := by decide +kernel
theorem dX6_readLine_181 : decode cX6_readLine 181 = .ok (.iload_n 1, 1) := by decide +kernel
theorem dX6_readLine_182 : decode cX6_readLine 182 = .ok (.iconst 2, 1) := by decide +kernel
theorem dX6_readLine_183 : decode cX6_readLine 183 = .ok (.iadd, 1) := by decide +kernel
theorem dX6_readLine_184 : decode cX6_readLine 184 = .ok (.bipush 7, 2) := by decide +kernel
theorem dX6_readLine_186 : decode cX6_readLine 186 = .ok (.iload 4, 2) := by decide +kernel
theorem dX6_readLine_188 : decode cX6_readLine 188 = .ok (.imul, 1) := by decide +kernel
theorem dX6_readLine_189 : decode cX6_readLine 189 = .ok (.iadd, 1) := by decide +kernel
theorem dX6_readLine_190 : decode cX6_readLine 190 = .ok (.iload 5, 2) := by decide +kernel
theorem dX6_readLine_192 : decode cX6_readLine 192 = .ok (.iadd, 1) := by decide +kernel
theorem dX6_readLine_193 : decode cX6_readLine 193 = .ok (.iload 6, 2) := by decide +kernel
theorem dX6_readLine_195 : decode cX6_readLine 195 = .ok (.iastore, 1) := by decide +kernel
theorem dX6_readLine_196 : decode cX6_readLine 196 = .ok (.iinc 5 1, 3) := by decide +kernel
theorem dX6_readLine_199 : decode cX6_readLine 199 = .ok (.goto (-65), 3) := by decide +kernel
theorem dX6_readLine_202 : decode cX6_readLine 202 = .ok (.aload_n 0, 1) := by decide +kernel
theorem dX6_readLine_203 : decode cX6_readLine 203 = .ok (.invokevirtual 82, 3) := by decide +kernel
theorem dX6_readLine_206 : decode cX6_readLine 206 = .ok (.ifCond .ne 4, 3) := by decide +kernel
theorem dX6_readLine_209 : decode cX6_readLine 209 = .ok (.return_, 1) := by decide +kernel
theorem dX6_readLine_210 : decode cX6_readLine 210 = .ok (.aload_n 0, 1) := by decide +kernel
theorem dX6_readLine_211 : decode cX6_readLine 211 = .ok (.getfield 20, 3) := by decide +kernel
theorem dX6_readLine_214 : decode cX6_readLine 214 = .ok (.iload_n 1, 1) := by decide +kernel
theorem dX6_readLine_215 : decode cX6_readLine 215 = .ok (.iconst 0, 1) := by decide +kernel
theorem dX6_readLine_216 : decode cX6_readLine 216 = .ok (.iadd, 1) := by decide +kernel
theorem dX6_readLine_217 : decode cX6_readLine 217 = .ok (.iload_n 3, 1) := by decide +kernel
theorem dX6_readLine_218 : decode cX6_readLine 218 = .ok (.iastore, 1) := by decide +kernel
theorem dX6_readLine_219 : decode cX6_readLine 219 = .ok (.aload_n 0, 1) := by decide +kernel
theorem dX6_readLine_220 : decode cX6_readLine 220 = .ok (.getfield 20, 3) := by decide +kernel
theorem dX6_readLine_223 : decode cX6_readLine 223 = .ok (.iload_n 1, 1) := by decide +kernel
theorem dX6_readLine_224 : decode cX6_readLine 224 = .ok (.iconst 1, 1) := by decide +kernel
theorem dX6_readLine_225 : decode cX6_readLine 225 = .ok (.iadd, 1) := by decide +kernel
theorem dX6_readLine_226 : decode cX6_readLine 226 = .ok (.dup2, 1) := by decide +kernel
theorem dX6_readLine_227 : decode cX6_readLine 227 = .ok (.iaload, 1) := by decide +kernel
theorem dX6_readLine_228 : decode cX6_readLine 228 = .ok (.iconst 1, 1) := by decide +kernel
theorem dX6_readLine_229 : decode cX6_readLine 229 = .ok (.iadd, 1) := by decide +kernel
theorem dX6_readLine_230 : decode cX6_readLine 230 = .ok (.iastore, 1) := by decide +kernel
theorem dX6_readLine_231 : decode cX6_readLine 231 = .ok (.aload_n 0, 1) := by decide +kernel
theorem dX6_readLine_232 : decode cX6_readLine 232 = .ok (.dup, 1) := by decide +kernel
theorem dX6_readLine_233 : decode cX6_readLine 233 = .ok (.getfield 70, 3) := by decide +kernel
theorem dX6_readLine_236 : decode cX6_readLine 236 = .ok (.iload_n 3, 1) := by decide +kernel
theorem dX6_readLine_237 : decode cX6_readLine 237 = .ok (.iadd, 1) := by decide +kernel
theorem dX6_readLine_238 : decode cX6_readLine 238 = .ok (.putfield 70, 3) := by decide +kernel
theorem dX6_readLine_241 : decode cX6_readLine 241 = .ok (.return_, 1) := by decide +kernel
theorem dX6_readPattern_0 : decode cX6_readPattern 0 = .ok (.aload_n 0, 1) := by decide +kernel
theorem dX6_readPattern_1 : decode cX6_readPattern 1 = .ok (.getfield 20, 3) := by decide +kernel
theorem dX6_readPattern_4 : decode cX6_readPattern 4 = .ok (.iconst 5, 1) := by decide +kernel
theorem dX6_readPattern_5 : decode cX6_readPattern 5 = .ok (.iaload, 1) := by decide +kernel
theorem dX6_readPattern_6 : decode cX6_readPattern 6 = .ok (.iconst 3, 1) := by decide +kernel
theorem dX6_readPattern_7 : decode cX6_readPattern 7 = .ok (.if_icmp .ne 10, 3) := by decide +kernel
theorem dX6_readPattern_10 : decode cX6_readPattern 10 = .ok (.aload_n 0, 1) := by decide +kernel
theorem dX6_readPattern_11 : decode cX6_readPattern 11 = .ok (.bipush (-5), 2) := by decide +kernel
theorem dX6_readPattern_13 : decode cX6_readPattern 13 = .ok (.iload_n 1, 1) := by decide +kernel
theorem dX6_readPattern_14 : decode cX6_readPattern 14 = .ok (.invokevirtual 99, 3) := by decide +kernel
theorem dX6_readPattern_17 : decode cX6_readPattern 17 = .ok (.aload_n 0, 1) := by decide +kernel
theorem dX6_readPattern_18 : decode cX6_readPattern 18 = .ok (.invokevirtual 82, 3) := by decide +kernel
theorem dX6_readPattern_21 : decode cX6_readPattern 21 = .ok (.ifCond .ne 4, 3) := by decide +kernel
theorem dX6_readPattern_24 : decode cX6_readPattern 24 = .ok (.return_, 1) := by decide +kernel
theorem dX6_readPattern_25 : decode cX6_readPattern 25 = .ok (.sipush 614, 3) := by decide +kernel
theorem dX6_readPattern_28 : decode cX6_readPattern 28 = .ok (.bipush 44, 2) := by decide +kernel
theorem dX6_readPattern_30 : decode cX6_readPattern 30 = .ok (.aload_n 0, 1) := by decide +kernel
theorem dX6_readPattern_31 : decode cX6_readPattern 31 = .ok (.getfield 20, 3) := by decide +kernel
theorem dX6_readPattern_34 : decode cX6_readPattern 34 = .ok (.iconst 5, 1) := by decide +kernel
theorem dX6_readPattern_35 : decode cX6_readPattern 35 = .ok (.iaload, 1) := by decide +kernel
theorem dX6_readPattern_36 : decode cX6_readPattern 36 = .ok (.imul, 1) := by decide +kernel
theorem dX6_readPattern_37 : decode cX6_readPattern 37 = .ok (.iadd, 1) := by decide +kernel
theorem dX6_readPattern_38 : decode cX6_readPattern 38 = .ok (.istore_n 2, 1) := by decide +kernel
theorem dX6_readPattern_39 : decode cX6_readPattern 39 = .ok (.aload_n 0, 1) := by decide +kernel
theorem dX6_readPattern_40 : decode cX6_readPattern 40 = .ok (.iload_n 2, 1) := by decide +kernel
theorem dX6_readPattern_41 : decode cX6_readPattern 41 = .ok (.invokevirtual 140, 3) := by decide +kernel
theorem dX6_readPattern_44 : decode cX6_readPattern 44 = .ok (.aload_n 0, 1) := by decide +kernel
theorem dX6_readPattern_45 : decode cX6_readPattern 45 = .ok (.invokevirtual 82, 3) := by decide +kernel
theorem dX6_readPattern_48 : decode cX6_readPattern 48 = .ok (.ifCond .eq 13, 3) := by decide +kernel
theorem dX6_readPattern_51 : decode cX6_readPattern 51 = .ok (.aload_n 0, 1) := by decide +kernel
theorem dX6_readPattern_52 : decode cX6_readPattern 52 = .ok (.invokevirtual 86, 3) := by decide +kernel
theorem dX6_readPattern_55 : decode cX6_readPattern 55 = .ok (.invokestatic 103, 3) := by decide +kernel
theorem dX6_readPattern_58 : decode cX6_readPattern 58 = .ok (.ifCond .ne (-19), 3) := by decide +kernel
theorem dX6_readPattern_61 : decode cX6_readPattern 61 = .ok (.aload_n 0, 1) := by decide +kernel
theorem dX6_readPattern_62 : decode cX6_readPattern 62 = .ok (.getfield 20, 3) := by decide +kernel
theorem dX6_readPattern_65 : decode cX6_readPattern 65 = .ok (.iconst 5, 1) := by decide +kernel
theorem dX6_readPattern_66 : decode cX6_readPattern 66 = .ok (.dup2, 1) := by decide +kernel
theorem dX6_readPattern_67 : decode cX6_readPattern 67 = .ok (.iaload, 1) := by decide +kernel
theorem dX6_readPattern_68 : decode cX6_readPattern 68 = .ok (.iconst 1, 1) := by decide +kernel
theorem dX6_readPattern_69 : decode cX6_readPattern 69 = .ok (.iadd, 1) := by decide +kernel
theorem dX6_readPattern_70 : decode cX6_readPattern 70 = .ok (.iastore, 1) := by decide +kernel
theorem dX6_readPattern_71 : decode cX6_readPattern 71 = .ok (.return_, 1) := by decide +kernel
theorem dX6_statement_0 : decode cX6_statement 0 = .ok (.aload_n 0, 1) := by decide +kernel
theorem dX6_statement_1 : decode cX6_statement 1 = .ok (.invokevirtual 86, 3) := by decide +kernel
theorem dX6_statement_4 : decode cX6_statement 4 = .ok (.pop, 1) := by decide +kernel
theorem dX6_statement_5 : decode cX6_statement 5 = .ok (.aload_n 0, 1) := by decide +kernel
theorem dX6_statement_6 : decode cX6_statement 6 = .ok (.getfield 70, 3) := by decide +kernel
theorem dX6_statement_9 : decode cX6_statement 9 = .ok (.istore_n 1, 1) := by decide +kernel
theorem dX6_statement_10 : decode cX6_statement 10 = .ok (.aload_n 0, 1) := by decide +kernel
theorem dX6_statement_11 : decode cX6_statement 11 = .ok (.ldc 144, 2) := by decide +kernel
theorem dX6_statement_13 : decode cX6_statement 13 = .ok (.invokevirtual 130, 3) := by decide +kernel
theorem dX6_statement_16 : decode cX6_statement 16 = .ok (.ifCond .eq 11, 3) := by decide +kernel
theorem dX6_statement_19 : decode cX6_statement 19 = .ok (.aload_n 0, 1) := by decide +kernel
theorem dX6_statement_20 : decode cX6_statement 20 = .ok (.iload_n 1, 1) := by decide +kernel
theorem dX6_statement_21 : decode cX6_statement 21 = .ok (.invokevirtual 146, 3) := by decide +kernel
theorem dX6_statement_24 : decode cX6_statement 24 = .ok (.goto 166, 3) := by decide +kernel
theorem dX6_statement_27 : decode cX6_statement 27 = .ok (.aload_n 0, 1) := by decide +kernel
theorem dX6_statement_28 : decode cX6_statement 28 = .ok (.ldc 149, 2) := by decide +kernel
theorem dX6_statement_30 : decode cX6_statement 30 = .ok (.invokevirtual 130, 3) := by decide +kernel
theorem dX6_statement_33 : decode cX6_statement 33 = .ok (.ifCond .eq 25, 3) := by decide +kernel
theorem dX6_statement_36 : decode cX6_statement 36 = .ok (.aload_n 0, 1) := by decide +kernel
theorem dX6_statement_37 : decode cX6_statement 37 = .ok (.iconst 1, 1) := by decide +kernel
theorem dX6_statement_38 : decode cX6_statement 38 = .ok (.iload_n 1, 1) := by decide +kernel
theorem dX6_statement_39 : decode cX6_statement 39 = .ok (.invokevirtual 122, 3) := by decide +kernel
theorem dX6_statement_42 : decode cX6_statement 42 = .ok (.aload_n 0, 1) := by decide +kernel
theorem dX6_statement_43 : decode cX6_statement 43 = .ok (.getfield 20, 3) := by decide +kernel
theorem dX6_statement_46 : decode cX6_statement 46 = .ok (.iconst 3, 1) := by decide +kernel
theorem dX6_statement_47 : decode cX6_statement 47 = .ok (.aload_n 0, 1) := by decide +kernel
theorem dX6_statement_48 : decode cX6_statement 48 = .ok (.iconst 0, 1) := by decide +kernel
theorem dX6_statement_49 : decode cX6_statement 49 = .ok (.bipush 99, 2) := by decide +kernel
theorem dX6_statement_51 : decode cX6_statement 51 = .ok (.invokevirtual 125, 3) := by decide +kernel
theorem dX6_statement_54 : decode cX6_statement 54 = .ok (.iastore, 1) := by decide +kernel
theorem dX6_statement_55 : decode cX6_statement 55 = .ok (.goto 135, 3) := by decide +kernel
theorem dX6_statement_58 : decode cX6_statement 58 = .ok (.aload_n 0, 1) := by decide +kernel
theorem dX6_statement_59 : decode cX6_statement 59 = .ok (.ldc 151, 2) := by decide +kernel
theorem dX6_statement_61 : decode cX6_statement 61 = .ok (.invokevirtual 130, 3) := by decide +kernel
theorem dX6_statement_64 : decode cX6_statement 64 = .ok (.ifCond .eq 25, 3) := by decide +kernel
theorem dX6_statement_67 : decode cX6_statement 67 = .ok (.aload_n 0, 1) := by decide +kernel
theorem dX6_statement_68 : decode cX6_statement 68 = .ok (.iconst 2, 1) := by decide +kernel
theorem dX6_statement_69 : decode cX6_statement 69 = .ok (.iload_n 1, 1) := by decide +kernel
theorem dX6_statement_70 : decode cX6_statement 70 = .ok (.invokevirtual 122, 3) := by decide +kernel
theorem dX6_statement_73 : decode cX6_statement 73 = .ok (.aload_n 0, 1) := by decide +kernel
theorem dX6_statement_74 : decode cX6_statement 74 = .ok (.getfield 20, 3) := by decide +kernel
theorem dX6_statement_77 : decode cX6_statement 77 = .ok (.iconst 4, 1) := by decide +kernel
theorem dX6_statement_78 : decode cX6_statement 78 = .ok (.aload_n 0, 1) := by decide +kernel
theorem dX6_statement_79 : decode cX6_statement 79 = .ok (.iconst 0, 1) := by decide +kernel
theorem dX6_statement_80 : decode cX6_statement 80 = .ok (.bipush 99, 2) := by decide +kernel
theorem dX6_statement_82 : decode cX6_statement 82 = .ok (.invokevirtual 125, 3) := by decide +kernel
theorem dX6_statement_85 : decode cX6_statement 85 = .ok (.iastore, 1) := by decide +kernel
theorem dX6_statement_86 : decode cX6_statement 86 = .ok (.goto 104, 3) := by decide +kernel
theorem dX6_statement_89 : decode cX6_statement 89 = .ok (.aload_n 0, 1) := by decide +kernel
theorem dX6_statement_90 : decode cX6_statement 90 = .ok (.ldc 153, 2) := by decide +kernel
theorem dX6_statement_92 : decode cX6_statement 92 = .ok (.invokevirtual 130, 3) := by decide +kernel
theorem dX6_statement_95 : decode cX6_statement 95 = .ok (.ifCond .eq 39, 3) := by decide +kernel
theorem dX6_statement_98 : decode cX6_statement 98 = .ok (.aload_n 0, 1) := by decide +kernel
theorem dX6_statement_99 : decode cX6_statement 99 = .ok (.iconst 1, 1) := by decide +kernel
theorem dX6_statement_100 : decode cX6_statement 100 = .ok (.bipush 6, 2) := by decide +kernel
theorem dX6_statement_102 : decode cX6_statement 102 = .ok (.invokevirtual 125, 3) := by decide +kernel
theorem dX6_statement_105 : decode cX6_statement 105 = .ok (.istore_n 2, 1) := by decide +kernel
theorem dX6_statement_106 : decode cX6_statement 106 = .ok (.aload_n 0, 1) := by decide +kernel
theorem dX6_statement_107 : decode cX6_statement 107 = .ok (.iconst 0, 1) := by decide +kernel
theorem dX6_statement_108 : decode cX6_statement 108 = .ok (.bipush 99, 2) := by decide +kernel
theorem dX6_statement_110 : decode cX6_statement 110 = .ok (.invokevirtual 125, 3) := by decide +kernel
theorem dX6_statement_113 : decode cX6_statement 113 = .ok (.istore_n 3, 1) := by decide +kernel
theorem dX6_statement_114 : decode cX6_statement 114 = .ok (.aload_n 0, 1) := by decide +kernel
theorem dX6_statement_115 : decode cX6_statement 115 = .ok (.invokevirtual 82, 3) := by decide +kernel
theorem dX6_statement_118 : decode cX6_statement 118 = .ok (.ifCond .eq 13, 3) := by decide +kernel
theorem dX6_statement_121 : decode cX6_statement 121 = .ok (.aload_n 0, 1) := by decide +kernel
theorem dX6_statement_122 : decode cX6_statement 122 = .ok (.getfield 20, 3) := by decide +kernel
theorem dX6_statement_125 : decode cX6_statement 125 = .ok (.bipush 18, 2) := by decide +kernel
theorem dX6_statement_127 : decode cX6_statement 127 = .ok (.iload_n 2, 1) := by decide +kernel
theorem dX6_statement_128 : decode cX6_statement 128 = .ok (.iadd, 1) := by decide +kernel
theorem dX6_statement_129 : decode cX6_statement 129 = .ok (.iload_n 3, 1) := by decide +kernel
theorem dX6_statement_130 : decode cX6_statement 130 = .ok (.iastore, 1) := by decide +kernel
theorem dX6_statement_131 : decode cX6_statement 131 = .ok (.goto 59, 3) := by decide +kernel
theorem dX6_statement_134 : decode cX6_statement 134 = .ok (.aload_n 0, 1) := by decide +kernel
theorem dX6_statement_135 : decode cX6_statement 135 = .ok (.ldc 155, 2) := by decide +kernel
theorem dX6_statement_137 : decode cX6_statement 137 = .ok (.invokevirtual 130, 3) := by decide +kernel
theorem dX6_statement_140 : decode cX6_statement 140 = .ok (.ifCond .eq 10, 3) := by decide +kernel
theorem dX6_statement_143 : decode cX6_statement 143 = .ok (.aload_n 0, 1) := by decide +kernel
theorem dX6_statement_144 : decode cX6_statement 144 = .ok (.invokevirtual 157, 3) := by decide +kernel
theorem dX6_statement_147 : decode cX6_statement 147 = .ok (.goto 43, 3) := by decide +kernel
theorem dX6_statement_150 : decode cX6_statement 150 = .ok (.aload_n 0, 1) := by decide +kernel
theorem dX6_statement_151 : decode cX6_statement 151 = .ok (.ldc 160, 2) := by decide +kernel
theorem dX6_statement_153 : decode cX6_statement 153 = .ok (.invokevirtual 130, 3) := by decide +kernel
theorem dX6_statement_156 : decode cX6_statement 156 = .ok (.ifCond .eq 10, 3) := by decide +kernel
theorem dX6_statement_159 : decode cX6_statement 159 = .ok (.aload_n 0, 1) := by decide +kernel
theorem dX6_statement_160 : decode cX6_statement 160 = .ok (.invokevirtual 162, 3) := by decide +kernel
theorem dX6_statement_163 : decode cX6_statement 163 = .ok (.goto 27, 3) := by decide +kernel
theorem dX6_statement_166 : decode cX6_statement 166 = .ok (.aload_n 0, 1) := by decide +kernel
theorem dX6_statement_167 : decode cX6_statement 167 = .ok (.ldc 165, 2) := by decide +kernel
theorem dX6_statement_169 : decode cX6_statement 169 = .ok (.invokevirtual 130, 3) := by decide +kernel
theorem dX6_statement_172 : decode cX6_statement 172 = .ok (.ifCond .eq 11, 3) := by decide +kernel
theorem dX6_statement_175 : decode cX6_statement 175 = .ok (.aload_n 0, 1) := by decide +kernel
theorem dX6_statement_176 : decode cX6_statement 176 = .ok (.iload_n 1, 1) := by decide +kernel
theorem dX6_statement_177 : decode cX6_statement 177 = .ok (.invokevirtual 167, 3) := by decide +kernel
theorem dX6_statement_180 : decode cX6_statement 180 = .ok (.goto 10, 3) := by decide +kernel
theorem dX6_statement_183 : decode cX6_statement 183 = .ok (.aload_n 0, 1) := by decide +kernel
theorem dX6_statement_184 : decode cX6_statement 184 = .ok (.bipush (-2), 2) := by decide +kernel
theorem dX6_statement_186 : decode cX6_statement 186 = .ok (.iload_n 1, 1) := by decide +kernel
theorem dX6_statement_187 : decode cX6_statement 187 = .ok (.invokevirtual 99, 3) := by decide +kernel
theorem dX6_statement_190 : decode cX6_statement 190 = .ok (.aload_n 0, 1) := by decide +kernel
theorem dX6_statement_191 : decode cX6_statement 191 = .ok (.bipush 59, 2) := by decide +kernel
theorem dX6_statement_193 : decode cX6_statement 193 = .ok (.invokevirtual 170, 3) := by decide +kernel
theorem dX6_statement_196 : decode cX6_statement 196 = .ok (.return_, 1) := by decide +kernel
theorem dX6_load_0 : decode cX6_load 0 = .ok (.aload_n 0, 1) := by decide +kernel
theorem dX6_load_1 : decode cX6_load 1 = .ok (.iconst 0, 1) := by decide +kernel
theorem dX6_load_2 : decode cX6_load 2 = .ok (.putfield 51, 3) := by decide +kernel
theorem dX6_load_5 : decode cX6_load 5 = .ok (.aload_n 0, 1) := by decide +kernel
theorem dX6_load_6 : decode cX6_load 6 = .ok (.iload_n 1, 1) := by decide +kernel
theorem dX6_load_7 : decode cX6_load 7 = .ok (.iconst 0, 1) := by decide +kernel
theorem dX6_load_8 : decode cX6_load 8 = .ok (.aload_n 0, 1) := by decide +kernel
theorem dX6_load_9 : decode cX6_load 9 = .ok (.getfield 64, 3) := by decide +kernel
theorem dX6_load_12 : decode cX6_load 12 = .ok (.invokestatic 54, 3) := by decide +kernel
theorem dX6_load_15 : decode cX6_load 15 = .ok (.ifCond .ne 7, 3) := by decide +kernel
theorem dX6_load_18 : decode cX6_load 18 = .ok (.iconst 1, 1) := by decide +kernel
theorem dX6_load_19 : decode cX6_load 19 = .ok (.goto 4, 3) := by decide +kernel
theorem dX6_load_22 : decode cX6_load 22 = .ok (.iconst 0, 1) := by decide +kernel
theorem dX6_load_23 : decode cX6_load 23 = .ok (.iconst 1, 1) := by decide +kernel
theorem dX6_load_24 : decode cX6_load 24 = .ok (.invokevirtual 173, 3) := by decide +kernel
theorem dX6_load_27 : decode cX6_load 27 = .ok (.ifCond .eq 5, 3) := by decide +kernel
theorem dX6_load_30 : decode cX6_load 30 = .ok (.iconst 0, 1) := by decide +kernel
theorem dX6_load_31 : decode cX6_load 31 = .ok (.ireturn, 1) := by decide +kernel
theorem dX6_load_32 : decode cX6_load 32 = .ok (.aload_n 0, 1) := by decide +kernel
theorem dX6_load_33 : decode cX6_load 33 = .ok (.iconst 0, 1) := by decide +kernel
theorem dX6_load_34 : decode cX6_load 34 = .ok (.putfield 64, 3) := by decide +kernel
theorem dX6_load_37 : decode cX6_load 37 = .ok (.aload_n 0, 1) := by decide +kernel
theorem dX6_load_38 : decode cX6_load 38 = .ok (.iload_n 1, 1) := by decide +kernel
theorem dX6_load_39 : decode cX6_load 39 = .ok (.putfield 67, 3) := by decide +kernel
theorem dX6_load_42 : decode cX6_load 42 = .ok (.aload_n 0, 1) := by decide +kernel
theorem dX6_load_43 : decode cX6_load 43 = .ok (.iconst 0, 1) := by decide +kernel
theorem dX6_load_44 : decode cX6_load 44 = .ok (.putfield 70, 3) := by decide +kernel
theorem dX6_load_47 : decode cX6_load 47 = .ok (.aload_n 0, 1) := by decide +kernel
theorem dX6_load_48 : decode cX6_load 48 = .ok (.iconst 0, 1) := by decide +kernel
theorem dX6_load_49 : decode cX6_load 49 = .ok (.putfield 76, 3) := by decide +kernel
theorem dX6_load_52 : decode cX6_load 52 = .ok (.aload_n 0, 1) := by decide +kernel
theorem dX6_load_53 : decode cX6_load 53 = .ok (.iconst (-1), 1) := by decide +kernel
theorem dX6_load_54 : decode cX6_load 54 = .ok (.putfield 79, 3) := by decide +kernel
theorem dX6_load_57 : decode cX6_load 57 = .ok (.aload_n 0, 1) := by decide +kernel
theorem dX6_load_58 : decode cX6_load 58 = .ok (.iconst 0, 1) := by decide +kernel
theorem dX6_load_59 : decode cX6_load 59 = .ok (.putfield 115, 3) := by decide +kernel
theorem dX6_load_62 : decode cX6_load 62 = .ok (.aload_n 0, 1) := by decide +kernel
theorem dX6_load_63 : decode cX6_load 63 = .ok (.iconst 0, 1) := by decide +kernel
theorem dX6_load_64 : decode cX6_load 64 = .ok (.putfield 118, 3) := by decide +kernel
theorem dX6_load_67 : decode cX6_load 67 = .ok (.aload_n 0, 1) := by decide +kernel
theorem dX6_load_68 : decode cX6_load 68 = .ok (.ldc 177, 2) := by decide +kernel
theorem dX6_load_70 : decode cX6_load 70 = .ok (.invokevirtual 130, 3) := by decide +kernel
theorem dX6_load_73 : decode cX6_load 73 = .ok (.ifCond .ne 13, 3) := by decide +kernel
theorem dX6_load_76 : decode cX6_load 76 = .ok (.aload_n 0, 1) := by decide +kernel
theorem dX6_load_77 : decode cX6_load 77 = .ok (.bipush (-2), 2) := by decide +kernel
theorem dX6_load_79 : decode cX6_load 79 = .ok (.aload_n 0, 1) := by decide +kernel
theorem dX6_load_80 : decode cX6_load 80 = .ok (.getfield 70, 3) := by decide +kernel
theorem dX6_load_83 : decode cX6_load 83 = .ok (.invokevirtual 99, 3) := by decide +kernel
theorem dX6_load_86 : decode cX6_load 86 = .ok (.aload_n 0, 1) := by decide +kernel
theorem dX6_load_87 : decode cX6_load 87 = .ok (.iconst 1, 1) := by decide +kernel
theorem dX6_load_88 : decode cX6_load 88 = .ok (.bipush 15, 2) := by decide +kernel
theorem dX6_load_90 : decode cX6_load 90 = .ok (.invokevirtual 125, 3) := by decide +kernel
theorem dX6_load_93 : decode cX6_load 93 = .ok (.istore_n 2, 1) := by decide +kernel
theorem dX6_load_94 : decode cX6_load 94 = .ok (.aload_n 0, 1) := by decide +kernel
theorem dX6_load_95 : decode cX6_load 95 = .ok (.invokevirtual 82, 3) := by decide +kernel
theorem dX6_load_98 : decode cX6_load 98 = .ok (.ifCond .eq 19, 3) := by decide +kernel
theorem dX6_load_101 : decode cX6_load 101 = .ok (.iload_n 2, 1) := by decide +kernel
theorem dX6_load_102 : decode cX6_load 102 = .ok (.iconst 2, 1) := by decide +kernel
theorem dX6_load_103 : decode cX6_load 103 = .ok (.irem, 1) := by decide +kernel
theorem dX6_load_104 : decode cX6_load 104 = .ok (.ifCond .ne 13, 3) := by decide +kernel
theorem dX6_load_107 : decode cX6_load 107 = .ok (.aload_n 0, 1) := by decide +kernel
theorem dX6_load_108 : decode cX6_load 108 = .ok (.bipush (-3), 2) := by decide +kernel
theorem dX6_load_110 : decode cX6_load 110 = .ok (.aload_n 0, 1) := by decide +kernel
theorem dX6_load_111 : decode cX6_load 111 = .ok (.getfield 107, 3) := by decide +kernel
theorem dX6_load_114 : decode cX6_load 114 = .ok (.invokevirtual 99, 3) := by decide +kernel
theorem dX6_load_117 : decode cX6_load 117 = .ok (.aload_n 0, 1) := by decide +kernel
theorem dX6_load_118 : decode cX6_load 118 = .ok (.iconst 1, 1) := by decide +kernel
theorem dX6_load_119 : decode cX6_load 119 = .ok (.bipush 12, 2) := by decide +kernel
theorem dX6_load_121 : decode cX6_load 121 = .ok (.invokevirtual 125, 3) := by decide +kernel
theorem dX6_load_124 : decode cX6_load 124 = .ok (.istore_n 3, 1) := by decide +kernel
theorem dX6_load_125 : decode cX6_load 125 = .ok (.aload_n 0, 1) := by decide +kernel
theorem dX6_load_126 : decode cX6_load 126 = .ok (.getfield 20, 3) := by decide +kernel
theorem dX6_load_129 : decode cX6_load 129 = .ok (.iload_n 2, 1) := by decide +kernel
theorem dX6_load_130 : decode cX6_load 130 = .ok (.iload_n 3, 1) := by decide +kernel
theorem dX6_load_131 : decode cX6_load 131 = .ok (.invokestatic 47, 3) := by decide +kernel
theorem dX6_load_134 : decode cX6_load 134 = .ok (.aload_n 0, 1) := by decide +kernel
theorem dX6_load_135 : decode cX6_load 135 = .ok (.bipush 59, 2) := by decide +kernel
theorem dX6_load_137 : decode cX6_load 137 = .ok (.invokevirtual 170, 3) := by decide +kernel
theorem dX6_load_140 : decode cX6_load 140 = .ok (.aload_n 0, 1) := by decide +kernel
theorem dX6_load_141 : decode cX6_load 141 = .ok (.invokevirtual 82, 3) := by decide +kernel
theorem dX6_load_144 : decode cX6_load 144 = .ok (.ifCond .eq 18, 3) := by decide +kernel
theorem dX6_load_147 : decode cX6_load 147 = .ok (.aload_n 0, 1) := by decide +kernel
theorem dX6_load_148 : decode cX6_load 148 = .ok (.invokevirtual 86, 3) := by decide +kernel
theorem dX6_load_151 : decode cX6_load 151 = .ok (.iconst (-1), 1) := by decide +kernel
theorem dX6_load_152 : decode cX6_load 152 = .ok (.if_icmp .eq 10, 3) := by decide +kernel
theorem dX6_load_155 : decode cX6_load 155 = .ok (.aload_n 0, 1) := by decide +kernel
theorem dX6_load_156 : decode cX6_load 156 = .ok (.invokevirtual 179, 3) := by decide +kernel
theorem dX6_load_159 : decode cX6_load 159 = .ok (.goto (-19), 3) := by decide +kernel
theorem dX6_load_162 : decode cX6_load 162 = .ok (.aload_n 0, 1) := by decide +kernel
theorem dX6_load_163 : decode cX6_load 163 = .ok (.aload_n 0, 1) := by decide +kernel
theorem dX6_load_164 : decode cX6_load 164 = .ok (.getfield 79, 3) := by decide +kernel
theorem dX6_load_167 : decode cX6_load 167 = .ok (.putfield 13, 3) := by decide +kernel
theorem dX6_load_170 : decode cX6_load 170 = .ok (.aload_n 0, 1) := by decide +kernel
theorem dX6_load_171 : decode cX6_load 171 = .ok (.invokevirtual 82, 3) := by decide +kernel
theorem dX6_load_174 : decode cX6_load 174 = .ok (.ifCond .ne 8, 3) := by decide +kernel
theorem dX6_load_177 : decode cX6_load 177 = .ok (.aload_n 0, 1) := by decide +kernel
theorem dX6_load_178 : decode cX6_load 178 = .ok (.getfield 76, 3) := by decide +kernel
theorem dX6_load_181 : decode cX6_load 181 = .ok (.ireturn, 1) := by decide +kernel
theorem dX6_load_182 : decode cX6_load 182 = .ok (.aload_n 0, 1) := by decide +kernel
theorem dX6_load_183 : decode cX6_load 183 = .ok (.invokevirtual 182, 3) := by decide +kernel
theorem dX6_load_186 : decode cX6_load 186 = .ok (.aload_n 0, 1) := by decide +kernel
theorem dX6_load_187 : decode cX6_load 187 = .ok (.getfield 20, 3) := by decide +kernel
theorem dX6_load_190 : decode cX6_load 190 = .ok (.aload_n 0, 1) := by decide +kernel
theorem dX6_load_191 : decode cX6_load 191 = .ok (.getfield 17, 3) := by decide +kernel
theorem dX6_load_194 : decode cX6_load 194 = .ok (.invokestatic 185, 3) := by decide +kernel
theorem dX6_load_197 : decode cX6_load 197 = .ok (.aload_n 0, 1) := by decide +kernel
theorem dX6_load_198 : decode cX6_load 198 = .ok (.invokevirtual 189, 3) := by decide +kernel
theorem dX6_load_201 : decode cX6_load 201 = .ok (.ireturn, 1) := by decide +kernel
theorem dX6_errorOffset_0 : decode cX6_errorOffset 0 = .ok (.aload_n 0, 1) := by decide +kernel
theorem dX6_errorOffset_1 : decode cX6_errorOffset 1 = .ok (.iconst 0, 1) := by decide +kernel
theorem dX6_errorOffset_2 : decode cX6_errorOffset 2 = .ok (.putfield 51, 3) := by decide +kernel
theorem dX6_errorOffset_5 : decode cX6_errorOffset 5 = .ok (.aload_n 0, 1) := by decide +kernel
theorem dX6_errorOffset_6 : decode cX6_errorOffset 6 = .ok (.getfield 13, 3) := by decide +kernel
theorem dX6_errorOffset_9 : decode cX6_errorOffset 9 = .ok (.ireturn, 1) := by decide +kernel
theorem dX6_cells_0 : decode cX6_cells 0 = .ok (.aload_n 0, 1) := by decide +kernel
theorem dX6_cells_1 : decode cX6_cells 1 = .ok (.getfield 17, 3) := by decide +kernel
theorem dX6_cells_4 : decode cX6_cells 4 = .ok (.iconst 0, 1) := by decide +kernel
theorem dX6_cells_5 : decode cX6_cells 5 = .ok (.iaload, 1) := by decide +kernel
theorem dX6_cells_6 : decode cX6_cells 6 = .ok (.aload_n 0, 1) := by decide +kernel
theorem dX6_cells_7 : decode cX6_cells 7 = .ok (.getfield 17, 3) := by decide +kernel
theorem dX6_cells_10 : decode cX6_cells 10 = .ok (.iconst 1, 1) := by decide +kernel
theorem dX6_cells_11 : decode cX6_cells 11 = .ok (.iaload, 1) := by decide +kernel
theorem dX6_cells_12 : decode cX6_cells 12 = .ok (.imul, 1) := by decide +kernel
theorem dX6_cells_13 : decode cX6_cells 13 = .ok (.ireturn, 1) := by decide +kernel
theorem dX6_xOf_0 : decode cX6_xOf 0 = .ok (.iload_n 1, 1) := by decide +kernel
theorem dX6_xOf_1 : decode cX6_xOf 1 = .ok (.aload_n 0, 1) := by decide +kernel
theorem dX6_xOf_2 : decode cX6_xOf 2 = .ok (.getfield 17, 3) := by decide +kernel
theorem dX6_xOf_5 : decode cX6_xOf 5 = .ok (.iconst 0, 1) := by decide +kernel
theorem dX6_xOf_6 : decode cX6_xOf 6 = .ok (.iaload, 1) := by decide +kernel
theorem dX6_xOf_7 : decode cX6_xOf 7 = .ok (.irem, 1) := by decide +kernel
theorem dX6_xOf_8 : decode cX6_xOf 8 = .ok (.ireturn, 1) := by decide +kernel
theorem dX6_yOf_0 : decode cX6_yOf 0 = .ok (.iload_n 1, 1) := by decide +kernel
theorem dX6_yOf_1 : decode cX6_yOf 1 = .ok (.aload_n 0, 1) := by decide +kernel
theorem dX6_yOf_2 : decode cX6_yOf 2 = .ok (.getfield 17, 3) := by decide +kernel
theorem dX6_yOf_5 : decode cX6_yOf 5 = .ok (.iconst 0, 1) := by decide +kernel
theorem dX6_yOf_6 : decode cX6_yOf 6 = .ok (.iaload, 1) := by decide +kernel
theorem dX6_yOf_7 : decode cX6_yOf 7 = .ok (.idiv, 1) := by decide +kernel
theorem dX6_yOf_8 : decode cX6_yOf 8 = .ok (.ireturn, 1) := by decide +kernel
theorem dX6_isOf_0 : decode cX6_isOf 0 = .ok (.aload_n 0, 1) := by decide +kernel
theorem dX6_isOf_1 : decode cX6_isOf 1 = .ok (.getfield 17, 3) := by decide +kernel
theorem dX6_isOf_4 : decode cX6_isOf 4 = .ok (.iload_n 1, 1) := by decide +kernel
theorem dX6_isOf_5 : decode cX6_isOf 5 = .ok (.iload_n 2, 1) := by decide +kernel
theorem dX6_isOf_6 : decode cX6_isOf 6 = .ok (.invokestatic 136, 3) := by decide +kernel
theorem dX6_isOf_9 : decode cX6_isOf 9 = .ok (.ireturn, 1) := by decide +kernel
theorem dX6_isCell_0 : decode cX6_isCell 0 = .ok (.aload_n 0, 1) := by decide +kernel
theorem dX6_isCell_1 : decode cX6_isCell 1 = .ok (.aload_n 0, 1) := by decide +kernel
theorem dX6_isCell_2 : decode cX6_isCell 2 = .ok (.iload_n 1, 1) := by decide +kernel
theorem dX6_isCell_3 : decode cX6_isCell 3 = .ok (.invokevirtual 192, 3) := by decide +kernel
theorem dX6_isCell_6 : decode cX6_isCell 6 = .ok (.aload_n 0, 1) := by decide +kernel
theorem dX6_isCell_7 : decode cX6_isCell 7 = .ok (.iload_n 1, 1) := by decide +kernel
theorem dX6_isCell_8 : decode cX6_isCell 8 = .ok (.invokevirtual 195, 3) := by decide +kernel
theorem dX6_isCell_11 : decode cX6_isCell 11 = .ok (.invokevirtual 198, 3) := by decide +kernel
theorem dX6_isCell_14 : decode cX6_isCell 14 = .ok (.ireturn, 1) := by decide +kernel
theorem dX6_mirrorOf_0 : decode cX6_mirrorOf 0 = .ok (.aload_n 0, 1) := by decide +kernel
theorem dX6_mirrorOf_1 : decode cX6_mirrorOf 1 = .ok (.iload_n 1, 1) := by decide +kernel
theorem dX6_mirrorOf_2 : decode cX6_mirrorOf 2 = .ok (.invokevirtual 195, 3) := by decide +kernel
theorem dX6_mirrorOf_5 : decode cX6_mirrorOf 5 = .ok (.aload_n 0, 1) := by decide +kernel
theorem dX6_mirrorOf_6 : decode cX6_mirrorOf 6 = .ok (.getfield 17, 3) := by decide +kernel
theorem dX6_mirrorOf_9 : decode cX6_mirrorOf 9 = .ok (.iconst 0, 1) := by decide +kernel
theorem dX6_mirrorOf_10 : decode cX6_mirrorOf 10 = .ok (.iaload, 1) := by decide +kernel
theorem dX6_mirrorOf_11 : decode cX6_mirrorOf 11 = .ok (.imul, 1) := by decide +kernel
theorem dX6_mirrorOf_12 : decode cX6_mirrorOf 12 = .ok (.aload_n 0, 1) := by decide +kernel
theorem dX6_mirrorOf_13 : decode cX6_mirrorOf 13 = .ok (.getfield 17, 3) := by decide +kernel
theorem dX6_mirrorOf_16 : decode cX6_mirrorOf 16 = .ok (.iconst 0, 1) := by decide +kernel
theorem dX6_mirrorOf_17 : decode cX6_mirrorOf 17 = .ok (.iaload, 1) := by decide +kernel
theorem dX6_mirrorOf_18 : decode cX6_mirrorOf 18 = .ok (.iadd, 1) := by decide +kernel
theorem dX6_mirrorOf_19 : decode cX6_mirrorOf 19 = .ok (.iconst 1, 1) := by decide +kernel
theorem dX6_mirrorOf_20 : decode cX6_mirrorOf 20 = .ok (.isub, 1) := by decide +kernel
theorem dX6_mirrorOf_21 : decode cX6_mirrorOf 21 = .ok (.aload_n 0, 1) := by decide +kernel
theorem dX6_mirrorOf_22 : decode cX6_mirrorOf 22 = .ok (.iload_n 1, 1) := by decide +kernel
theorem dX6_mirrorOf_23 : decode cX6_mirrorOf 23 = .ok (.invokevirtual 192, 3) := by decide +kernel
theorem dX6_mirrorOf_26 : decode cX6_mirrorOf 26 = .ok (.isub, 1) := by decide +kernel
theorem dX6_mirrorOf_27 : decode cX6_mirrorOf 27 = .ok (.ireturn, 1) := by decide +kernel
theorem dX6_beside_0 : decode cX6_beside 0 = .ok (.aload_n 0, 1) := by decide +kernel
theorem dX6_beside_1 : decode cX6_beside 1 = .ok (.iload_n 1, 1) := by decide +kernel
theorem dX6_beside_2 : decode cX6_beside 2 = .ok (.invokevirtual 192, 3) := by decide +kernel
theorem dX6_beside_5 : decode cX6_beside 5 = .ok (.iload_n 2, 1) := by decide +kernel
theorem dX6_beside_6 : decode cX6_beside 6 = .ok (.iconst 2, 1) := by decide +kernel
theorem dX6_beside_7 : decode cX6_beside 7 = .ok (.if_icmp .ne 7, 3) := by decide +kernel
theorem dX6_beside_10 : decode cX6_beside 10 = .ok (.iconst (-1), 1) := by decide +kernel
theorem dX6_beside_11 : decode cX6_beside 11 = .ok (.goto 13, 3) := by decide +kernel
theorem dX6_beside_14 : decode cX6_beside 14 = .ok (.iload_n 2, 1) := by decide +kernel
theorem dX6_beside_15 : decode cX6_beside 15 = .ok (.iconst 3, 1) := by decide +kernel
theorem dX6_beside_16 : decode cX6_beside 16 = .ok (.if_icmp .ne 7, 3) := by decide +kernel
theorem dX6_beside_19 : decode cX6_beside 19 = .ok (.iconst 1, 1) := by decide +kernel
theorem dX6_beside_20 : decode cX6_beside 20 = .ok (.goto 4, 3) := by decide +kernel
theorem dX6_beside_23 : decode cX6_beside 23 = .ok (.iconst 0, 1) := by decide +kernel
theorem dX6_beside_24 : decode cX6_beside 24 = .ok (.iadd, 1) := by decide +kernel
theorem dX6_beside_25 : decode cX6_beside 25 = .ok (.istore_n 3, 1) := by decide +kernel
theorem dX6_beside_26 : decode cX6_beside 26 = .ok (.aload_n 0, 1) := by decide +kernel
theorem dX6_beside_27 : decode cX6_beside 27 = .ok (.iload_n 1, 1) := by decide +kernel
theorem dX6_beside_28 : decode cX6_beside 28 = .ok (.invokevirtual 195, 3) := by decide +kernel
theorem dX6_beside_31 : decode cX6_beside 31 = .ok (.iload_n 2, 1) := by decide +kernel
theorem dX6_beside_32 : decode cX6_beside 32 = .ok (.ifCond .ne 7, 3) := by decide +kernel
theorem dX6_beside_35 : decode cX6_beside 35 = .ok (.iconst (-1), 1) := by decide +kernel
theorem dX6_beside_36 : decode cX6_beside 36 = .ok (.goto 13, 3) := by decide +kernel
theorem dX6_beside_39 : decode cX6_beside 39 = .ok (.iload_n 2, 1) := by decide +kernel
theorem dX6_beside_40 : decode cX6_beside 40 = .ok (.iconst 1, 1) := by decide +kernel
theorem dX6_beside_41 : decode cX6_beside 41 = .ok (.if_icmp .ne 7, 3) := by decide +kernel
theorem dX6_beside_44 : decode cX6_beside 44 = .ok (.iconst 1, 1) := by decide +kernel
theorem dX6_beside_45 : decode cX6_beside 45 = .ok (.goto 4, 3) := by decide +kernel
theorem dX6_beside_48 : decode cX6_beside 48 = .ok (.iconst 0, 1) := by decide +kernel
theorem dX6_beside_49 : decode cX6_beside 49 = .ok (.iadd, 1) := by decide +kernel
theorem dX6_beside_50 : decode cX6_beside 50 = .ok (.istore 4, 2) := by decide +kernel
theorem dX6_beside_52 : decode cX6_beside 52 = .ok (.aload_n 0, 1) := by decide +kernel
theorem dX6_beside_53 : decode cX6_beside 53 = .ok (.iload_n 3, 1) := by decide +kernel
theorem dX6_beside_54 : decode cX6_beside 54 = .ok (.iload 4, 2) := by decide +kernel
theorem dX6_beside_56 : decode cX6_beside 56 = .ok (.invokevirtual 198, 3) := by decide +kernel
theorem dX6_beside_59 : decode cX6_beside 59 = .ok (.ifCond .eq 17, 3) := by decide +kernel
theorem dX6_beside_62 : decode cX6_beside 62 = .ok (.iload 4, 2) := by decide +kernel
theorem dX6_beside_64 : decode cX6_beside 64 = .ok (.aload_n 0, 1) := by decide +kernel
theorem dX6_beside_65 : decode cX6_beside 65 = .ok (.getfield 17, 3) := by decide +kernel
theorem dX6_beside_68 : decode cX6_beside 68 = .ok (.iconst 0, 1) := by decide +kernel
theorem dX6_beside_69 : decode cX6_beside 69 = .ok (.iaload, 1) := by decide +kernel
theorem dX6_beside_70 : decode cX6_beside 70 = .ok (.imul, 1) := by decide +kernel
theorem dX6_beside_71 : decode cX6_beside 71 = .ok (.iload_n 3, 1) := by decide +kernel
theorem dX6_beside_72 : decode cX6_beside 72 = .ok (.iadd, 1) := by decide +kernel
theorem dX6_beside_73 : decode cX6_beside 73 = .ok (.goto 4, 3) := by decide +kernel
theorem dX6_beside_76 : decode cX6_beside 76 = .ok (.iconst (-1), 1) := by decide +kernel
theorem dX6_beside_77 : decode cX6_beside 77 = .ok (.ireturn, 1) := by decide +kernel
theorem dX6_mixOf_0 : decode cX6_mixOf 0 = .ok (.aload_n 0, 1) := by decide +kernel
theorem dX6_mixOf_1 : decode cX6_mixOf 1 = .ok (.getfield 17, 3) := by decide +kernel
theorem dX6_mixOf_4 : decode cX6_mixOf 4 = .ok (.bipush 25, 2) := by decide +kernel
theorem dX6_mixOf_6 : decode cX6_mixOf 6 = .ok (.bipush 7, 2) := by decide +kernel
theorem dX6_mixOf_8 : decode cX6_mixOf 8 = .ok (.iload_n 1, 1) := by decide +kernel
theorem dX6_mixOf_9 : decode cX6_mixOf 9 = .ok (.imul, 1) := by decide +kernel
theorem dX6_mixOf_10 : decode cX6_mixOf 10 = .ok (.iadd, 1) := by decide +kernel
theorem dX6_mixOf_11 : decode cX6_mixOf 11 = .ok (.iload_n 2, 1) := by decide +kernel
theorem dX6_mixOf_12 : decode cX6_mixOf 12 = .ok (.iadd, 1) := by decide +kernel
theorem dX6_mixOf_13 : decode cX6_mixOf 13 = .ok (.iaload, 1) := by decide +kernel
theorem dX6_mixOf_14 : decode cX6_mixOf 14 = .ok (.istore_n 3, 1) := by decide +kernel
theorem dX6_mixOf_15 : decode cX6_mixOf 15 = .ok (.iload_n 1, 1) := by decide +kernel
theorem dX6_mixOf_16 : decode cX6_mixOf 16 = .ok (.iload_n 2, 1) := by decide +kernel
theorem dX6_mixOf_17 : decode cX6_mixOf 17 = .ok (.if_icmp .ne 7, 3) := by decide +kernel
theorem dX6_mixOf_20 : decode cX6_mixOf 20 = .ok (.iload_n 1, 1) := by decide +kernel
theorem dX6_mixOf_21 : decode cX6_mixOf 21 = .ok (.goto 16, 3) := by decide +kernel
theorem dX6_mixOf_24 : decode cX6_mixOf 24 = .ok (.iload_n 3, 1) := by decide +kernel
theorem dX6_mixOf_25 : decode cX6_mixOf 25 = .ok (.ifCond .le 7, 3) := by decide +kernel
theorem dX6_mixOf_28 : decode cX6_mixOf 28 = .ok (.iload_n 3, 1) := by decide +kernel
theorem dX6_mixOf_29 : decode cX6_mixOf 29 = .ok (.goto 8, 3) := by decide +kernel
theorem dX6_mixOf_32 : decode cX6_mixOf 32 = .ok (.iload_n 1, 1) := by decide +kernel
theorem dX6_mixOf_33 : decode cX6_mixOf 33 = .ok (.iload_n 2, 1) := by decide +kernel
theorem dX6_mixOf_34 : decode cX6_mixOf 34 = .ok (.invokestatic 202, 3) := by decide +kernel
theorem dX6_mixOf_37 : decode cX6_mixOf 37 = .ok (.ireturn, 1) := by decide +kernel
theorem dX6_sailCells_0 : decode cX6_sailCells 0 = .ok (.iconst 0, 1) := by decide +kernel
theorem dX6_sailCells_1 : decode cX6_sailCells 1 = .ok (.istore_n 1, 1) := by decide +kernel
theorem dX6_sailCells_2 : decode cX6_sailCells 2 = .ok (.iconst 0, 1) := by decide +kernel
theorem dX6_sailCells_3 : decode cX6_sailCells 3 = .ok (.istore_n 2, 1) := by decide +kernel
theorem dX6_sailCells_4 : decode cX6_sailCells 4 = .ok (.iload_n 2, 1) := by decide +kernel
theorem dX6_sailCells_5 : decode cX6_sailCells 5 = .ok (.aload_n 0, 1) := by decide +kernel
theorem dX6_sailCells_6 : decode cX6_sailCells 6 = .ok (.invokevirtual 205, 3) := by decide +kernel
theorem dX6_sailCells_9 : decode cX6_sailCells 9 = .ok (.if_icmp .ge 25, 3) := by decide +kernel
theorem dX6_sailCells_12 : decode cX6_sailCells 12 = .ok (.iload_n 1, 1) := by decide +kernel
theorem dX6_sailCells_13 : decode cX6_sailCells 13 = .ok (.aload_n 0, 1) := by decide +kernel
theorem dX6_sailCells_14 : decode cX6_sailCells 14 = .ok (.iload_n 2, 1) := by decide +kernel
theorem dX6_sailCells_15 : decode cX6_sailCells 15 = .ok (.invokevirtual 208, 3) := by decide +kernel
theorem dX6_sailCells_18 : decode cX6_sailCells 18 = .ok (.ifCond .eq 7, 3) := by decide +kernel
theorem dX6_sailCells_21 : decode cX6_sailCells 21 = .ok (.iconst 1, 1) := by decide +kernel
theorem dX6_sailCells_22 : decode cX6_sailCells 22 = .ok (.goto 4, 3) := by decide +kernel
theorem dX6_sailCells_25 : decode cX6_sailCells 25 = .ok (.iconst 0, 1) := by decide +kernel
theorem dX6_sailCells_26 : decode cX6_sailCells 26 = .ok (.iadd, 1) := by decide +kernel
theorem dX6_sailCells_27 : decode cX6_sailCells 27 = .ok (.istore_n 1, 1) := by decide +kernel
theorem dX6_sailCells_28 : decode cX6_sailCells 28 = .ok (.iinc 2 1, 3) := by decide +kernel
theorem dX6_sailCells_31 : decode cX6_sailCells 31 = .ok (.goto (-27), 3) := by decide +kernel
theorem dX6_sailCells_34 : decode cX6_sailCells 34 = .ok (.iload_n 1, 1) := by decide +kernel
theorem dX6_sailCells_35 : decode cX6_sailCells 35 = .ok (.ireturn, 1) := by decide +kernel
theorem dX6_colourWeight_0 : decode cX6_colourWeight 0 = .ok (.iload_n 1, 1) := by decide +kernel
theorem dX6_colourWeight_1 : decode cX6_colourWeight 1 = .ok (.ifCond .ne 7, 3) := by decide +kernel
theorem dX6_colourWeight_4 : decode cX6_colourWeight 4 = .ok (.iconst 0, 1) := by decide +kernel
theorem dX6_colourWeight_5 : decode cX6_colourWeight 5 = .ok (.goto 12, 3) := by decide +kernel
theorem dX6_colourWeight_8 : decode cX6_colourWeight 8 = .ok (.aload_n 0, 1) := by decide +kernel
theorem dX6_colourWeight_9 : decode cX6_colourWeight 9 = .ok (.getfield 17, 3) := by decide +kernel
theorem dX6_colourWeight_12 : decode cX6_colourWeight 12 = .ok (.bipush 18, 2) := by decide +kernel
theorem dX6_colourWeight_14 : decode cX6_colourWeight 14 = .ok (.iload_n 1, 1) := by decide +kernel
theorem dX6_colourWeight_15 : decode cX6_colourWeight 15 = .ok (.iadd, 1) := by decide +kernel
theorem dX6_colourWeight_16 : decode cX6_colourWeight 16 = .ok (.iaload, 1) := by decide +kernel
theorem dX6_colourWeight_17 : decode cX6_colourWeight 17 = .ok (.ireturn, 1) := by decide +kernel
theorem dX6_weightOf_0 : decode cX6_weightOf 0 = .ok (.aload_n 0, 1) := by decide +kernel
theorem dX6_weightOf_1 : decode cX6_weightOf 1 = .ok (.getfield 17, 3) := by decide +kernel
theorem dX6_weightOf_4 : decode cX6_weightOf 4 = .ok (.iconst 3, 1) := by decide +kernel
theorem dX6_weightOf_5 : decode cX6_weightOf 5 = .ok (.iaload, 1) := by decide +kernel
theorem dX6_weightOf_6 : decode cX6_weightOf 6 = .ok (.aload_n 0, 1) := by decide +kernel
theorem dX6_weightOf_7 : decode cX6_weightOf 7 = .ok (.aload_n 0, 1) := by decide +kernel
theorem dX6_weightOf_8 : decode cX6_weightOf 8 = .ok (.getfield 17, 3) := by decide +kernel
theorem dX6_weightOf_11 : decode cX6_weightOf 11 = .ok (.bipush 74, 2) := by decide +kernel
theorem dX6_weightOf_13 : decode cX6_weightOf 13 = .ok (.iload_n 1, 1) := by decide +kernel
theorem dX6_weightOf_14 : decode cX6_weightOf 14 = .ok (.iadd, 1) := by decide +kernel
theorem dX6_weightOf_15 : decode cX6_weightOf 15 = .ok (.iaload, 1) := by decide +kernel
theorem dX6_weightOf_16 : decode cX6_weightOf 16 = .ok (.invokevirtual 211, 3) := by decide +kernel
theorem dX6_weightOf_19 : decode cX6_weightOf 19 = .ok (.iadd, 1) := by decide +kernel
theorem dX6_weightOf_20 : decode cX6_weightOf 20 = .ok (.aload_n 0, 1) := by decide +kernel
theorem dX6_weightOf_21 : decode cX6_weightOf 21 = .ok (.getfield 17, 3) := by decide +kernel
theorem dX6_weightOf_24 : decode cX6_weightOf 24 = .ok (.sipush 434, 3) := by decide +kernel
theorem dX6_weightOf_27 : decode cX6_weightOf 27 = .ok (.iload_n 1, 1) := by decide +kernel
theorem dX6_weightOf_28 : decode cX6_weightOf 28 = .ok (.iadd, 1) := by decide +kernel
theorem dX6_weightOf_29 : decode cX6_weightOf 29 = .ok (.iaload, 1) := by decide +kernel
theorem dX6_weightOf_30 : decode cX6_weightOf 30 = .ok (.aload_n 0, 1) := by decide +kernel
theorem dX6_weightOf_31 : decode cX6_weightOf 31 = .ok (.getfield 17, 3) := by decide +kernel
theorem dX6_weightOf_34 : decode cX6_weightOf 34 = .ok (.iconst 4, 1) := by decide +kernel
theorem dX6_weightOf_35 : decode cX6_weightOf 35 = .ok (.iaload, 1) := by decide +kernel
theorem dX6_weightOf_36 : decode cX6_weightOf 36 = .ok (.imul, 1) := by decide +kernel
theorem dX6_weightOf_37 : decode cX6_weightOf 37 = .ok (.iadd, 1) := by decide +kernel
theorem dX6_weightOf_38 : decode cX6_weightOf 38 = .ok (.ireturn, 1) := by decide +kernel
theorem dX6_weightAt_0 : decode cX6_weightAt 0 = .ok (.iconst 0, 1) := by decide +kernel
theorem dX6_weightAt_1 : decode cX6_weightAt 1 = .ok (.istore_n 2, 1) := by decide +kernel
theorem dX6_weightAt_2 : decode cX6_weightAt 2 = .ok (.iconst 0, 1) := by decide +kernel
theorem dX6_weightAt_3 : decode cX6_weightAt 3 = .ok (.istore_n 3, 1) := by decide +kernel
theorem dX6_weightAt_4 : decode cX6_weightAt 4 = .ok (.iload_n 3, 1) := by decide +kernel
theorem dX6_weightAt_5 : decode cX6_weightAt 5 = .ok (.aload_n 0, 1) := by decide +kernel
theorem dX6_weightAt_6 : decode cX6_weightAt 6 = .ok (.invokevirtual 205, 3) := by decide +kernel
theorem dX6_weightAt_9 : decode cX6_weightAt 9 = .ok (.if_icmp .ge 50, 3) := by decide +kernel
theorem dX6_weightAt_12 : decode cX6_weightAt 12 = .ok (.iload_n 2, 1) := by decide +kernel
theorem dX6_weightAt_13 : decode cX6_weightAt 13 = .ok (.aload_n 0, 1) := by decide +kernel
theorem dX6_weightAt_14 : decode cX6_weightAt 14 = .ok (.iload_n 3, 1) := by decide +kernel
theorem dX6_weightAt_15 : decode cX6_weightAt 15 = .ok (.invokevirtual 208, 3) := by decide +kernel
theorem dX6_weightAt_18 : decode cX6_weightAt 18 = .ok (.ifCond .eq 32, 3) := by decide +kernel
theorem dX6_weightAt_21 : decode cX6_weightAt 21 = .ok (.aload_n 0, 1) := by decide +kernel
theorem dX6_weightAt_22 : decode cX6_weightAt 22 = .ok (.iload_n 3, 1) := by decide +kernel
theorem dX6_weightAt_23 : decode cX6_weightAt 23 = .ok (.invokevirtual 192, 3) := by decide +kernel
theorem dX6_weightAt_26 : decode cX6_weightAt 26 = .ok (.aload_n 0, 1) := by decide +kernel
theorem dX6_weightAt_27 : decode cX6_weightAt 27 = .ok (.getfield 17, 3) := by decide +kernel
theorem dX6_weightAt_30 : decode cX6_weightAt 30 = .ok (.iconst 0, 1) := by decide +kernel
theorem dX6_weightAt_31 : decode cX6_weightAt 31 = .ok (.iaload, 1) := by decide +kernel
theorem dX6_weightAt_32 : decode cX6_weightAt 32 = .ok (.iconst 2, 1) := by decide +kernel
theorem dX6_weightAt_33 : decode cX6_weightAt 33 = .ok (.idiv, 1) := by decide +kernel
theorem dX6_weightAt_34 : decode cX6_weightAt 34 = .ok (.isub, 1) := by decide +kernel
theorem dX6_weightAt_35 : decode cX6_weightAt 35 = .ok (.invokestatic 214, 3) := by decide +kernel
theorem dX6_weightAt_38 : decode cX6_weightAt 38 = .ok (.iload_n 1, 1) := by decide +kernel
theorem dX6_weightAt_39 : decode cX6_weightAt 39 = .ok (.if_icmp .ne 11, 3) := by decide +kernel
theorem dX6_weightAt_42 : decode cX6_weightAt 42 = .ok (.aload_n 0, 1) := by decide +kernel
theorem dX6_weightAt_43 : decode cX6_weightAt 43 = .ok (.iload_n 3, 1) := by decide +kernel
theorem dX6_weightAt_44 : decode cX6_weightAt 44 = .ok (.invokevirtual 219, 3) := by decide +kernel
theorem dX6_weightAt_47 : decode cX6_weightAt 47 = .ok (.goto 4, 3) := by decide +kernel
theorem dX6_weightAt_50 : decode cX6_weightAt 50 = .ok (.iconst 0, 1) := by decide +kernel
theorem dX6_weightAt_51 : decode cX6_weightAt 51 = .ok (.iadd, 1) := by decide +kernel
theorem dX6_weightAt_52 : decode cX6_weightAt 52 = .ok (.istore_n 2, 1) := by decide +kernel
theorem dX6_weightAt_53 : decode cX6_weightAt 53 = .ok (.iinc 3 1, 3) := by decide +kernel
theorem dX6_weightAt_56 : decode cX6_weightAt 56 = .ok (.goto (-52), 3) := by decide +kernel
theorem dX6_weightAt_59 : decode cX6_weightAt 59 = .ok (.iload_n 2, 1) := by decide +kernel
theorem dX6_weightAt_60 : decode cX6_weightAt 60 = .ok (.ireturn, 1) := by decide +kernel
theorem dX6_balance_0 : decode cX6_balance 0 = .ok (.aload_n 0, 1) := by decide +kernel
theorem dX6_balance_1 : decode cX6_balance 1 = .ok (.iconst 1, 1) := by decide +kernel
theorem dX6_balance_2 : decode cX6_balance 2 = .ok (.invokevirtual 222, 3) := by decide +kernel
theorem dX6_balance_5 : decode cX6_balance 5 = .ok (.aload_n 0, 1) := by decide +kernel
theorem dX6_balance_6 : decode cX6_balance 6 = .ok (.iconst (-1), 1) := by decide +kernel
theorem dX6_balance_7 : decode cX6_balance 7 = .ok (.invokevirtual 222, 3) := by decide +kernel
theorem dX6_balance_10 : decode cX6_balance 10 = .ok (.isub, 1) := by decide +kernel
theorem dX6_balance_11 : decode cX6_balance 11 = .ok (.ireturn, 1) := by decide +kernel
theorem dX6_source_0 : decode cX6_source 0 = .ok (.iconst (-1), 1) := by decide +kernel
theorem dX6_source_1 : decode cX6_source 1 = .ok (.istore_n 2, 1) := by decide +kernel
theorem dX6_source_2 : decode cX6_source 2 = .ok (.iconst 0, 1) := by decide +kernel
theorem dX6_source_3 : decode cX6_source 3 = .ok (.istore_n 3, 1) := by decide +kernel
theorem dX6_source_4 : decode cX6_source 4 = .ok (.iload_n 3, 1) := by decide +kernel
theorem dX6_source_5 : decode cX6_source 5 = .ok (.iconst 4, 1) := by decide +kernel
theorem dX6_source_6 : decode cX6_source 6 = .ok (.if_icmp .ge 143, 3) := by decide +kernel
theorem dX6_source_9 : decode cX6_source 9 = .ok (.aload_n 0, 1) := by decide +kernel
theorem dX6_source_10 : decode cX6_source 10 = .ok (.iload_n 1, 1) := by decide +kernel
theorem dX6_source_11 : decode cX6_source 11 = .ok (.iload_n 3, 1) := by decide +kernel
theorem dX6_source_12 : decode cX6_source 12 = .ok (.invokevirtual 225, 3) := by decide +kernel
theorem dX6_source_15 : decode cX6_source 15 = .ok (.istore 4, 2) := by decide +kernel
theorem dX6_source_17 : decode cX6_source 17 = .ok (.iload 4, 2) := by decide +kernel
theorem dX6_source_19 : decode cX6_source 19 = .ok (.iconst (-1), 1) := by decide +kernel
theorem dX6_source_20 : decode cX6_source 20 = .ok (.if_icmp .eq 123, 3) := by decide +kernel
theorem dX6_source_23 : decode cX6_source 23 = .ok (.aload_n 0, 1) := by decide +kernel
theorem dX6_source_24 : decode cX6_source 24 = .ok (.getfield 17, 3) := by decide +kernel
theorem dX6_source_27 : decode cX6_source 27 = .ok (.sipush 434, 3) := by decide +kernel
theorem dX6_source_30 : decode cX6_source 30 = .ok (.iload 4, 2) := by decide +kernel
theorem dX6_source_32 : decode cX6_source 32 = .ok (.iadd, 1) := by decide +kernel
theorem dX6_source_33 : decode cX6_source 33 = .ok (.iaload, 1) := by decide +kernel
theorem dX6_source_34 : decode cX6_source 34 = .ok (.iconst 1, 1) := by decide +kernel
theorem dX6_source_35 : decode cX6_source 35 = .ok (.if_icmp .eq 108, 3) := by decide +kernel
theorem dX6_source_38 : decode cX6_source 38 = .ok (.aload_n 0, 1) := by decide +kernel
theorem dX6_source_39 : decode cX6_source 39 = .ok (.getfield 17, 3) := by decide +kernel
theorem dX6_source_42 : decode cX6_source 42 = .ok (.sipush 254, 3) := by decide +kernel
theorem dX6_source_45 : decode cX6_source 45 = .ok (.iload 4, 2) := by decide +kernel
theorem dX6_source_47 : decode cX6_source 47 = .ok (.iadd, 1) := by decide +kernel
theorem dX6_source_48 : decode cX6_source 48 = .ok (.iaload, 1) := by decide +kernel
theorem dX6_source_49 : decode cX6_source 49 = .ok (.aload_n 0, 1) := by decide +kernel
theorem dX6_source_50 : decode cX6_source 50 = .ok (.getfield 17, 3) := by decide +kernel
theorem dX6_source_53 : decode cX6_source 53 = .ok (.sipush 254, 3) := by decide +kernel
theorem dX6_source_56 : decode cX6_source 56 = .ok (.iload_n 1, 1) := by decide +kernel
theorem dX6_source_57 : decode cX6_source 57 = .ok (.iadd, 1) := by decide +kernel
theorem dX6_source_58 : decode cX6_source 58 = .ok (.iaload, 1) := by decide +kernel
theorem dX6_source_59 : decode cX6_source 59 = .ok (.iconst 2, 1) := by decide +kernel
theorem dX6_source_60 : decode cX6_source 60 = .ok (.iadd, 1) := by decide +kernel
theorem dX6_source_61 : decode cX6_source 61 = .ok (.if_icmp .ge 6, 3) := by decide +kernel
theorem dX6_source_64 : decode cX6_source 64 = .ok (.goto 79, 3) := by decide +kernel
theorem dX6_source_67 : decode cX6_source 67 = .ok (.iload_n 2, 1) := by decide +kernel
theorem dX6_source_68 : decode cX6_source 68 = .ok (.iconst (-1), 1) := by decide +kernel
theorem dX6_source_69 : decode cX6_source 69 = .ok (.if_icmp .ne 7, 3) := by decide +kernel
theorem dX6_source_72 : decode cX6_source 72 = .ok (.iconst 1, 1) := by decide +kernel
theorem dX6_source_73 : decode cX6_source 73 = .ok (.goto 49, 3) := by decide +kernel
theorem dX6_source_76 : decode cX6_source 76 = .ok (.bipush 10, 2) := by decide +kernel
theorem dX6_source_78 : decode cX6_source 78 = .ok (.aload_n 0, 1) := by decide +kernel
theorem dX6_source_79 : decode cX6_source 79 = .ok (.getfield 17, 3) := by decide +kernel
theorem dX6_source_82 : decode cX6_source 82 = .ok (.sipush 254, 3) := by decide +kernel
theorem dX6_source_85 : decode cX6_source 85 = .ok (.iload 4, 2) := by decide +kernel
theorem dX6_source_87 : decode cX6_source 87 = .ok (.iadd, 1) := by decide +kernel
theorem dX6_source_88 : decode cX6_source 88 = .ok (.iaload, 1) := by decide +kernel
theorem dX6_source_89 : decode cX6_source 89 = .ok (.aload_n 0, 1) := by decide +kernel
theorem dX6_source_90 : decode cX6_source 90 = .ok (.getfield 17, 3) := by decide +kernel
theorem dX6_source_93 : decode cX6_source 93 = .ok (.sipush 254, 3) := by decide +kernel
theorem dX6_source_96 : decode cX6_source 96 = .ok (.iload_n 2, 1) := by decide +kernel
theorem dX6_source_97 : decode cX6_source 97 = .ok (.iadd, 1) := by decide +kernel
theorem dX6_source_98 : decode cX6_source 98 = .ok (.iaload, 1) := by decide +kernel
theorem dX6_source_99 : decode cX6_source 99 = .ok (.isub, 1) := by decide +kernel
theorem dX6_source_100 : decode cX6_source 100 = .ok (.imul, 1) := by decide +kernel
theorem dX6_source_101 : decode cX6_source 101 = .ok (.aload_n 0, 1) := by decide +kernel
theorem dX6_source_102 : decode cX6_source 102 = .ok (.getfield 17, 3) := by decide +kernel
theorem dX6_source_105 : decode cX6_source 105 = .ok (.bipush 74, 2) := by decide +kernel
theorem dX6_source_107 : decode cX6_source 107 = .ok (.iload 4, 2) := by decide +kernel
theorem dX6_source_109 : decode cX6_source 109 = .ok (.iadd, 1) := by decide +kernel
theorem dX6_source_110 : decode cX6_source 110 = .ok (.iaload, 1) := by decide +kernel
theorem dX6_source_111 : decode cX6_source 111 = .ok (.iadd, 1) := by decide +kernel
theorem dX6_source_112 : decode cX6_source 112 = .ok (.aload_n 0, 1) := by decide +kernel
theorem dX6_source_113 : decode cX6_source 113 = .ok (.getfield 17, 3) := by decide +kernel
theorem dX6_source_116 : decode cX6_source 116 = .ok (.bipush 74, 2) := by decide +kernel
theorem dX6_source_118 : decode cX6_source 118 = .ok (.iload_n 2, 1) := by decide +kernel
theorem dX6_source_119 : decode cX6_source 119 = .ok (.iadd, 1) := by decide +kernel
theorem dX6_source_120 : decode cX6_source 120 = .ok (.iaload, 1) := by decide +kernel
theorem dX6_source_121 : decode cX6_source 121 = .ok (.isub, 1) := by decide +kernel
theorem dX6_source_122 : decode cX6_source 122 = .ok (.istore 5, 2) := by decide +kernel
theorem dX6_source_124 : decode cX6_source 124 = .ok (.iload 5, 2) := by decide +kernel
theorem dX6_source_126 : decode cX6_source 126 = .ok (.ifCond .gt 14, 3) := by decide +kernel
theorem dX6_source_129 : decode cX6_source 129 = .ok (.iload 5, 2) := by decide +kernel
theorem dX6_source_131 : decode cX6_source 131 = .ok (.ifCond .ne 12, 3) := by decide +kernel
theorem dX6_source_134 : decode cX6_source 134 = .ok (.iload 4, 2) := by decide +kernel
theorem dX6_source_136 : decode cX6_source 136 = .ok (.iload_n 2, 1) := by decide +kernel
theorem dX6_source_137 : decode cX6_source 137 = .ok (.if_icmp .ge 6, 3) := by decide +kernel
theorem dX6_source_140 : decode cX6_source 140 = .ok (.iload 4, 2) := by decide +kernel
theorem dX6_source_142 : decode cX6_source 142 = .ok (.istore_n 2, 1) := by decide +kernel
theorem dX6_source_143 : decode cX6_source 143 = .ok (.iinc 3 1, 3) := by decide +kernel
theorem dX6_source_146 : decode cX6_source 146 = .ok (.goto (-142), 3) := by decide +kernel
theorem dX6_source_149 : decode cX6_source 149 = .ok (.iload_n 2, 1) := by decide +kernel
theorem dX6_source_150 : decode cX6_source 150 = .ok (.ireturn, 1) := by decide +kernel
theorem dX6_toldBleeds_0 : decode cX6_toldBleeds 0 = .ok (.aload_n 0, 1) := by decide +kernel
theorem dX6_toldBleeds_1 : decode cX6_toldBleeds 1 = .ok (.getfield 17, 3) := by decide +kernel
theorem dX6_toldBleeds_4 : decode cX6_toldBleeds 4 = .ok (.sipush 434, 3) := by decide +kernel
theorem dX6_toldBleeds_7 : decode cX6_toldBleeds 7 = .ok (.iload_n 1, 1) := by decide +kernel
theorem dX6_toldBleeds_8 : decode cX6_toldBleeds 8 = .ok (.iadd, 1) := by decide +kernel
theorem dX6_toldBleeds_9 : decode cX6_toldBleeds 9 = .ok (.iaload, 1) := by decide +kernel
theorem dX6_toldBleeds_10 : decode cX6_toldBleeds 10 = .ok (.iconst 1, 1) := by decide +kernel
theorem dX6_toldBleeds_11 : decode cX6_toldBleeds 11 = .ok (.if_icmp .ne 8, 3) := by decide +kernel
theorem dX6_toldBleeds_14 : decode cX6_toldBleeds 14 = .ok (.bipush (-2), 2) := by decide +kernel
theorem dX6_toldBleeds_16 : decode cX6_toldBleeds 16 = .ok (.goto 38, 3) := by decide +kernel
theorem dX6_toldBleeds_19 : decode cX6_toldBleeds 19 = .ok (.aload_n 0, 1) := by decide +kernel
theorem dX6_toldBleeds_20 : decode cX6_toldBleeds 20 = .ok (.getfield 17, 3) := by decide +kernel
theorem dX6_toldBleeds_23 : decode cX6_toldBleeds 23 = .ok (.sipush 254, 3) := by decide +kernel
theorem dX6_toldBleeds_26 : decode cX6_toldBleeds 26 = .ok (.iload_n 1, 1) := by decide +kernel
theorem dX6_toldBleeds_27 : decode cX6_toldBleeds 27 = .ok (.iadd, 1) := by decide +kernel
theorem dX6_toldBleeds_28 : decode cX6_toldBleeds 28 = .ok (.iaload, 1) := by decide +kernel
theorem dX6_toldBleeds_29 : decode cX6_toldBleeds 29 = .ok (.ifCond .ne 20, 3) := by decide +kernel
theorem dX6_toldBleeds_32 : decode cX6_toldBleeds 32 = .ok (.aload_n 0, 1) := by decide +kernel
theorem dX6_toldBleeds_33 : decode cX6_toldBleeds 33 = .ok (.getfield 17, 3) := by decide +kernel
theorem dX6_toldBleeds_36 : decode cX6_toldBleeds 36 = .ok (.bipush 74, 2) := by decide +kernel
theorem dX6_toldBleeds_38 : decode cX6_toldBleeds 38 = .ok (.iload_n 1, 1) := by decide +kernel
theorem dX6_toldBleeds_39 : decode cX6_toldBleeds 39 = .ok (.iadd, 1) := by decide +kernel
theorem dX6_toldBleeds_40 : decode cX6_toldBleeds 40 = .ok (.iaload, 1) := by decide +kernel
theorem dX6_toldBleeds_41 : decode cX6_toldBleeds 41 = .ok (.ifCond .le 8, 3) := by decide +kernel
theorem dX6_toldBleeds_44 : decode cX6_toldBleeds 44 = .ok (.bipush (-3), 2) := by decide +kernel
theorem dX6_toldBleeds_46 : decode cX6_toldBleeds 46 = .ok (.goto 8, 3) := by decide +kernel
theorem dX6_toldBleeds_49 : decode cX6_toldBleeds 49 = .ok (.aload_n 0, 1) := by decide +kernel
theorem dX6_toldBleeds_50 : decode cX6_toldBleeds 50 = .ok (.iload_n 1, 1) := by decide +kernel
theorem dX6_toldBleeds_51 : decode cX6_toldBleeds 51 = .ok (.invokevirtual 228, 3) := by decide +kernel
theorem dX6_toldBleeds_54 : decode cX6_toldBleeds 54 = .ok (.ireturn, 1) := by decide +kernel
theorem dX6_tick_0 : decode cX6_tick 0 = .ok (.iconst 0, 1) := by decide +kernel
theorem dX6_tick_1 : decode cX6_tick 1 = .ok (.istore_n 1, 1) := by decide +kernel
theorem dX6_tick_2 : decode cX6_tick 2 = .ok (.iconst 0, 1) := by decide +kernel
theorem dX6_tick_3 : decode cX6_tick 3 = .ok (.istore_n 2, 1) := by decide +kernel
theorem dX6_tick_4 : decode cX6_tick 4 = .ok (.iload_n 2, 1) := by decide +kernel
theorem dX6_tick_5 : decode cX6_tick 5 = .ok (.aload_n 0, 1) := by decide +kernel
theorem dX6_tick_6 : decode cX6_tick 6 = .ok (.invokevirtual 205, 3) := by decide +kernel
theorem dX6_tick_9 : decode cX6_tick 9 = .ok (.if_icmp .ge 125, 3) := by decide +kernel
theorem dX6_tick_12 : decode cX6_tick 12 = .ok (.aload_n 0, 1) := by decide +kernel
theorem dX6_tick_13 : decode cX6_tick 13 = .ok (.iload_n 2, 1) := by decide +kernel
theorem dX6_tick_14 : decode cX6_tick 14 = .ok (.invokevirtual 208, 3) := by decide +kernel
theorem dX6_tick_17 : decode cX6_tick 17 = .ok (.ifCond .eq 11, 3) := by decide +kernel
theorem dX6_tick_20 : decode cX6_tick 20 = .ok (.aload_n 0, 1) := by decide +kernel
theorem dX6_tick_21 : decode cX6_tick 21 = .ok (.iload_n 2, 1) := by decide +kernel
theorem dX6_tick_22 : decode cX6_tick 22 = .ok (.invokevirtual 231, 3) := by decide +kernel
theorem dX6_tick_25 : decode cX6_tick 25 = .ok (.goto 4, 3) := by decide +kernel
theorem dX6_tick_28 : decode cX6_tick 28 = .ok (.iconst (-1), 1) := by decide +kernel
theorem dX6_tick_29 : decode cX6_tick 29 = .ok (.istore_n 3, 1) := by decide +kernel
theorem dX6_tick_30 : decode cX6_tick 30 = .ok (.aload_n 0, 1) := by decide +kernel
theorem dX6_tick_31 : decode cX6_tick 31 = .ok (.getfield 31, 3) := by decide +kernel
theorem dX6_tick_34 : decode cX6_tick 34 = .ok (.iload_n 2, 1) := by decide +kernel
theorem dX6_tick_35 : decode cX6_tick 35 = .ok (.iload_n 3, 1) := by decide +kernel
theorem dX6_tick_36 : decode cX6_tick 36 = .ok (.iastore, 1) := by decide +kernel
theorem dX6_tick_37 : decode cX6_tick 37 = .ok (.iload_n 3, 1) := by decide +kernel
theorem dX6_tick_38 : decode cX6_tick 38 = .ok (.ifCond .ge 6, 3) := by decide +kernel
theorem dX6_tick_41 : decode cX6_tick 41 = .ok (.goto 87, 3) := by decide +kernel
theorem dX6_tick_44 : decode cX6_tick 44 = .ok (.aload_n 0, 1) := by decide +kernel
theorem dX6_tick_45 : decode cX6_tick 45 = .ok (.getfield 34, 3) := by decide +kernel
theorem dX6_tick_48 : decode cX6_tick 48 = .ok (.iload_n 2, 1) := by decide +kernel
theorem dX6_tick_49 : decode cX6_tick 49 = .ok (.aload_n 0, 1) := by decide +kernel
theorem dX6_tick_50 : decode cX6_tick 50 = .ok (.getfield 17, 3) := by decide +kernel
theorem dX6_tick_53 : decode cX6_tick 53 = .ok (.bipush 74, 2) := by decide +kernel
theorem dX6_tick_55 : decode cX6_tick 55 = .ok (.iload_n 2, 1) := by decide +kernel
theorem dX6_tick_56 : decode cX6_tick 56 = .ok (.iadd, 1) := by decide +kernel
theorem dX6_tick_57 : decode cX6_tick 57 = .ok (.iaload, 1) := by decide +kernel
theorem dX6_tick_58 : decode cX6_tick 58 = .ok (.ifCond .ne 15, 3) := by decide +kernel
theorem dX6_tick_61 : decode cX6_tick 61 = .ok (.aload_n 0, 1) := by decide +kernel
theorem dX6_tick_62 : decode cX6_tick 62 = .ok (.getfield 17, 3) := by decide +kernel
theorem dX6_tick_65 : decode cX6_tick 65 = .ok (.bipush 74, 2) := by decide +kernel
theorem dX6_tick_67 : decode cX6_tick 67 = .ok (.iload_n 3, 1) := by decide +kernel
theorem dX6_tick_68 : decode cX6_tick 68 = .ok (.iadd, 1) := by decide +kernel
theorem dX6_tick_69 : decode cX6_tick 69 = .ok (.iaload, 1) := by decide +kernel
theorem dX6_tick_70 : decode cX6_tick 70 = .ok (.goto 25, 3) := by decide +kernel
theorem dX6_tick_73 : decode cX6_tick 73 = .ok (.aload_n 0, 1) := by decide +kernel
theorem dX6_tick_74 : decode cX6_tick 74 = .ok (.aload_n 0, 1) := by decide +kernel
theorem dX6_tick_75 : decode cX6_tick 75 = .ok (.getfield 17, 3) := by decide +kernel
theorem dX6_tick_78 : decode cX6_tick 78 = .ok (.bipush 74, 2) := by decide +kernel
theorem dX6_tick_80 : decode cX6_tick 80 = .ok (.iload_n 2, 1) := by decide +kernel
theorem dX6_tick_81 : decode cX6_tick 81 = .ok (.iadd, 1) := by decide +kernel
theorem dX6_tick_82 : decode cX6_tick 82 = .ok (.iaload, 1) := by decide +kernel
theorem dX6_tick_83 : decode cX6_tick 83 = .ok (.aload_n 0, 1) := by decide +kernel
theorem dX6_tick_84 : decode cX6_tick 84 = .ok (.getfield 17, 3) := by decide +kernel
theorem dX6_tick_87 : decode cX6_tick 87 = .ok (.bipush 74, 2) := by decide +kernel
theorem dX6_tick_89 : decode cX6_tick 89 = .ok (.iload_n 3, 1) := by decide +kernel
theorem dX6_tick_90 : decode cX6_tick 90 = .ok (.iadd, 1) := by decide +kernel
theorem dX6_tick_91 : decode cX6_tick 91 = .ok (.iaload, 1) := by decide +kernel
theorem dX6_tick_92 : decode cX6_tick 92 = .ok (.invokevirtual 234, 3) := by decide +kernel
theorem dX6_tick_95 : decode cX6_tick 95 = .ok (.iastore, 1) := by decide +kernel
theorem dX6_tick_96 : decode cX6_tick 96 = .ok (.aload_n 0, 1) := by decide +kernel
theorem dX6_tick_97 : decode cX6_tick 97 = .ok (.getfield 37, 3) := by decide +kernel
theorem dX6_tick_100 : decode cX6_tick 100 = .ok (.iload_n 2, 1) := by decide +kernel
theorem dX6_tick_101 : decode cX6_tick 101 = .ok (.aload_n 0, 1) := by decide +kernel
theorem dX6_tick_102 : decode cX6_tick 102 = .ok (.getfield 17, 3) := by decide +kernel
theorem dX6_tick_105 : decode cX6_tick 105 = .ok (.sipush 254, 3) := by decide +kernel
theorem dX6_tick_108 : decode cX6_tick 108 = .ok (.iload_n 2, 1) := by decide +kernel
theorem dX6_tick_109 : decode cX6_tick 109 = .ok (.iadd, 1) := by decide +kernel
theorem dX6_tick_110 : decode cX6_tick 110 = .ok (.iaload, 1) := by decide +kernel
theorem dX6_tick_111 : decode cX6_tick 111 = .ok (.aload_n 0, 1) := by decide +kernel
theorem dX6_tick_112 : decode cX6_tick 112 = .ok (.getfield 17, 3) := by decide +kernel
theorem dX6_tick_115 : decode cX6_tick 115 = .ok (.sipush 254, 3) := by decide +kernel
theorem dX6_tick_118 : decode cX6_tick 118 = .ok (.iload_n 3, 1) := by decide +kernel
theorem dX6_tick_119 : decode cX6_tick 119 = .ok (.iadd, 1) := by decide +kernel
theorem dX6_tick_120 : decode cX6_tick 120 = .ok (.iaload, 1) := by decide +kernel
theorem dX6_tick_121 : decode cX6_tick 121 = .ok (.iadd, 1) := by decide +kernel
theorem dX6_tick_122 : decode cX6_tick 122 = .ok (.iconst 2, 1) := by decide +kernel
theorem dX6_tick_123 : decode cX6_tick 123 = .ok (.idiv, 1) := by decide +kernel
theorem dX6_tick_124 : decode cX6_tick 124 = .ok (.iastore, 1) := by decide +kernel
theorem dX6_tick_125 : decode cX6_tick 125 = .ok (.iinc 1 1, 3) := by decide +kernel
theorem dX6_tick_128 : decode cX6_tick 128 = .ok (.iinc 2 1, 3) := by decide +kernel
theorem dX6_tick_131 : decode cX6_tick 131 = .ok (.goto (-127), 3) := by decide +kernel
theorem dX6_tick_134 : decode cX6_tick 134 = .ok (.iconst 0, 1) := by decide +kernel
theorem dX6_tick_135 : decode cX6_tick 135 = .ok (.istore_n 2, 1) := by decide +kernel
theorem dX6_tick_136 : decode cX6_tick 136 = .ok (.iload_n 2, 1) := by decide +kernel
theorem dX6_tick_137 : decode cX6_tick 137 = .ok (.aload_n 0, 1) := by decide +kernel
theorem dX6_tick_138 : decode cX6_tick 138 = .ok (.invokevirtual 205, 3) := by decide +kernel
theorem dX6_tick_141 : decode cX6_tick 141 = .ok (.if_icmp .ge 75, 3) := by decide +kernel
theorem dX6_tick_144 : decode cX6_tick 144 = .ok (.aload_n 0, 1) := by decide +kernel
theorem dX6_tick_145 : decode cX6_tick 145 = .ok (.getfield 31, 3) := by decide +kernel
theorem dX6_tick_148 : decode cX6_tick 148 = .ok (.iload_n 2, 1) := by decide +kernel
theorem dX6_tick_149 : decode cX6_tick 149 = .ok (.iaload, 1) := by decide +kernel
theorem dX6_tick_150 : decode cX6_tick 150 = .ok (.ifCond .lt 34, 3) := by decide +kernel
theorem dX6_tick_153 : decode cX6_tick 153 = .ok (.aload_n 0, 1) := by decide +kernel
theorem dX6_tick_154 : decode cX6_tick 154 = .ok (.getfield 17, 3) := by decide +kernel
theorem dX6_tick_157 : decode cX6_tick 157 = .ok (.bipush 74, 2) := by decide +kernel
theorem dX6_tick_159 : decode cX6_tick 159 = .ok (.iload_n 2, 1) := by decide +kernel
theorem dX6_tick_160 : decode cX6_tick 160 = .ok (.iadd, 1) := by decide +kernel
theorem dX6_tick_161 : decode cX6_tick 161 = .ok (.aload_n 0, 1) := by decide +kernel
theorem dX6_tick_162 : decode cX6_tick 162 = .ok (.getfield 34, 3) := by decide +kernel
theorem dX6_tick_165 : decode cX6_tick 165 = .ok (.iload_n 2, 1) := by decide +kernel
theorem dX6_tick_166 : decode cX6_tick 166 = .ok (.iaload, 1) := by decide +kernel
theorem dX6_tick_167 : decode cX6_tick 167 = .ok (.iastore, 1) := by decide +kernel
theorem dX6_tick_168 : decode cX6_tick 168 = .ok (.aload_n 0, 1) := by decide +kernel
theorem dX6_tick_169 : decode cX6_tick 169 = .ok (.getfield 17, 3) := by decide +kernel
theorem dX6_tick_172 : decode cX6_tick 172 = .ok (.sipush 254, 3) := by decide +kernel
theorem dX6_tick_175 : decode cX6_tick 175 = .ok (.iload_n 2, 1) := by decide +kernel
theorem dX6_tick_176 : decode cX6_tick 176 = .ok (.iadd, 1) := by decide +kernel
theorem dX6_tick_177 : decode cX6_tick 177 = .ok (.aload_n 0, 1) := by decide +kernel
theorem dX6_tick_178 : decode cX6_tick 178 = .ok (.getfield 37, 3) := by decide +kernel
theorem dX6_tick_181 : decode cX6_tick 181 = .ok (.iload_n 2, 1) := by decide +kernel
theorem dX6_tick_182 : decode cX6_tick 182 = .ok (.iaload, 1) := by decide +kernel
theorem dX6_tick_183 : decode cX6_tick 183 = .ok (.iastore, 1) := by decide +kernel
theorem dX6_tick_184 : decode cX6_tick 184 = .ok (.aload_n 0, 1) := by decide +kernel
theorem dX6_tick_185 : decode cX6_tick 185 = .ok (.getfield 17, 3) := by decide +kernel
theorem dX6_tick_188 : decode cX6_tick 188 = .ok (.sipush 254, 3) := by decide +kernel
theorem dX6_tick_191 : decode cX6_tick 191 = .ok (.iload_n 2, 1) := by decide +kernel
theorem dX6_tick_192 : decode cX6_tick 192 = .ok (.iadd, 1) := by decide +kernel
theorem dX6_tick_193 : decode cX6_tick 193 = .ok (.iconst 0, 1) := by decide +kernel
theorem dX6_tick_194 : decode cX6_tick 194 = .ok (.aload_n 0, 1) := by decide +kernel
theorem dX6_tick_195 : decode cX6_tick 195 = .ok (.getfield 17, 3) := by decide +kernel
theorem dX6_tick_198 : decode cX6_tick 198 = .ok (.sipush 254, 3) := by decide +kernel
theorem dX6_tick_201 : decode cX6_tick 201 = .ok (.iload_n 2, 1) := by decide +kernel
theorem dX6_tick_202 : decode cX6_tick 202 = .ok (.iadd, 1) := by decide +kernel
theorem dX6_tick_203 : decode cX6_tick 203 = .ok (.iaload, 1) := by decide +kernel
theorem dX6_tick_204 : decode cX6_tick 204 = .ok (.iconst 1, 1) := by decide +kernel
theorem dX6_tick_205 : decode cX6_tick 205 = .ok (.isub, 1) := by decide +kernel
theorem dX6_tick_206 : decode cX6_tick 206 = .ok (.invokestatic 202, 3) := by decide +kernel
theorem dX6_tick_209 : decode cX6_tick 209 = .ok (.iastore, 1) := by decide +kernel
theorem dX6_tick_210 : decode cX6_tick 210 = .ok (.iinc 2 1, 3) := by decide +kernel
theorem dX6_tick_213 : decode cX6_tick 213 = .ok (.goto (-77), 3) := by decide +kernel
theorem dX6_tick_216 : decode cX6_tick 216 = .ok (.aload_n 0, 1) := by decide +kernel
theorem dX6_tick_217 : decode cX6_tick 217 = .ok (.getfield 17, 3) := by decide +kernel
theorem dX6_tick_220 : decode cX6_tick 220 = .ok (.iconst 2, 1) := by decide +kernel
theorem dX6_tick_221 : decode cX6_tick 221 = .ok (.dup2, 1) := by decide +kernel
theorem dX6_tick_222 : decode cX6_tick 222 = .ok (.iaload, 1) := by decide +kernel
theorem dX6_tick_223 : decode cX6_tick 223 = .ok (.iconst 1, 1) := by decide +kernel
theorem dX6_tick_224 : decode cX6_tick 224 = .ok (.iadd, 1) := by decide +kernel
theorem dX6_tick_225 : decode cX6_tick 225 = .ok (.iastore, 1) := by decide +kernel
theorem dX6_tick_226 : decode cX6_tick 226 = .ok (.iload_n 1, 1) := by decide +kernel
theorem dX6_tick_227 : decode cX6_tick 227 = .ok (.ireturn, 1) := by decide +kernel
theorem dX6_wetCells_0 : decode cX6_wetCells 0 = .ok (.iconst 0, 1) := by decide +kernel
theorem dX6_wetCells_1 : decode cX6_wetCells 1 = .ok (.istore_n 1, 1) := by decide +kernel
theorem dX6_wetCells_2 : decode cX6_wetCells 2 = .ok (.iconst 0, 1) := by decide +kernel
theorem dX6_wetCells_3 : decode cX6_wetCells 3 = .ok (.istore_n 2, 1) := by decide +kernel
theorem dX6_wetCells_4 : decode cX6_wetCells 4 = .ok (.iload_n 2, 1) := by decide +kernel
theorem dX6_wetCells_5 : decode cX6_wetCells 5 = .ok (.aload_n 0, 1) := by decide +kernel
theorem dX6_wetCells_6 : decode cX6_wetCells 6 = .ok (.invokevirtual 205, 3) := by decide +kernel
theorem dX6_wetCells_9 : decode cX6_wetCells 9 = .ok (.if_icmp .ge 30, 3) := by decide +kernel
theorem dX6_wetCells_12 : decode cX6_wetCells 12 = .ok (.iload_n 1, 1) := by decide +kernel
theorem dX6_wetCells_13 : decode cX6_wetCells 13 = .ok (.aload_n 0, 1) := by decide +kernel
theorem dX6_wetCells_14 : decode cX6_wetCells 14 = .ok (.getfield 17, 3) := by decide +kernel
theorem dX6_wetCells_17 : decode cX6_wetCells 17 = .ok (.sipush 254, 3) := by decide +kernel
theorem dX6_wetCells_20 : decode cX6_wetCells 20 = .ok (.iload_n 2, 1) := by decide +kernel
theorem dX6_wetCells_21 : decode cX6_wetCells 21 = .ok (.iadd, 1) := by decide +kernel
theorem dX6_wetCells_22 : decode cX6_wetCells 22 = .ok (.iaload, 1) := by decide +kernel
theorem dX6_wetCells_23 : decode cX6_wetCells 23 = .ok (.ifCond .le 7, 3) := by decide +kernel
theorem dX6_wetCells_26 : decode cX6_wetCells 26 = .ok (.iconst 1, 1) := by decide +kernel
theorem dX6_wetCells_27 : decode cX6_wetCells 27 = .ok (.goto 4, 3) := by decide +kernel
theorem dX6_wetCells_30 : decode cX6_wetCells 30 = .ok (.iconst 0, 1) := by decide +kernel
theorem dX6_wetCells_31 : decode cX6_wetCells 31 = .ok (.iadd, 1) := by decide +kernel
theorem dX6_wetCells_32 : decode cX6_wetCells 32 = .ok (.istore_n 1, 1) := by decide +kernel
theorem dX6_wetCells_33 : decode cX6_wetCells 33 = .ok (.iinc 2 1, 3) := by decide +kernel
theorem dX6_wetCells_36 : decode cX6_wetCells 36 = .ok (.goto (-32), 3) := by decide +kernel
theorem dX6_wetCells_39 : decode cX6_wetCells 39 = .ok (.iload_n 1, 1) := by decide +kernel
theorem dX6_wetCells_40 : decode cX6_wetCells 40 = .ok (.ireturn, 1) := by decide +kernel
theorem dX6_wettest_0 : decode cX6_wettest 0 = .ok (.iconst 0, 1) := by decide +kernel
theorem dX6_wettest_1 : decode cX6_wettest 1 = .ok (.istore_n 1, 1) := by decide +kernel
theorem dX6_wettest_2 : decode cX6_wettest 2 = .ok (.iconst 0, 1) := by decide +kernel
theorem dX6_wettest_3 : decode cX6_wettest 3 = .ok (.istore_n 2, 1) := by decide +kernel
theorem dX6_wettest_4 : decode cX6_wettest 4 = .ok (.iload_n 2, 1) := by decide +kernel
theorem dX6_wettest_5 : decode cX6_wettest 5 = .ok (.aload_n 0, 1) := by decide +kernel
theorem dX6_wettest_6 : decode cX6_wettest 6 = .ok (.invokevirtual 205, 3) := by decide +kernel
theorem dX6_wettest_9 : decode cX6_wettest 9 = .ok (.if_icmp .ge 24, 3) := by decide +kernel
theorem dX6_wettest_12 : decode cX6_wettest 12 = .ok (.iload_n 1, 1) := by decide +kernel
theorem dX6_wettest_13 : decode cX6_wettest 13 = .ok (.aload_n 0, 1) := by decide +kernel
theorem dX6_wettest_14 : decode cX6_wettest 14 = .ok (.getfield 17, 3) := by decide +kernel
theorem dX6_wettest_17 : decode cX6_wettest 17 = .ok (.sipush 254, 3) := by decide +kernel
theorem dX6_wettest_20 : decode cX6_wettest 20 = .ok (.iload_n 2, 1) := by decide +kernel
theorem dX6_wettest_21 : decode cX6_wettest 21 = .ok (.iadd, 1) := by decide +kernel
theorem dX6_wettest_22 : decode cX6_wettest 22 = .ok (.iaload, 1) := by decide +kernel
theorem dX6_wettest_23 : decode cX6_wettest 23 = .ok (.invokestatic 202, 3) := by decide +kernel
theorem dX6_wettest_26 : decode cX6_wettest 26 = .ok (.istore_n 1, 1) := by decide +kernel
theorem dX6_wettest_27 : decode cX6_wettest 27 = .ok (.iinc 2 1, 3) := by decide +kernel
theorem dX6_wettest_30 : decode cX6_wettest 30 = .ok (.goto (-26), 3) := by decide +kernel
theorem dX6_wettest_33 : decode cX6_wettest 33 = .ok (.iload_n 1, 1) := by decide +kernel
theorem dX6_wettest_34 : decode cX6_wettest 34 = .ok (.ireturn, 1) := by decide +kernel
theorem dX6_countOf_0 : decode cX6_countOf 0 = .ok (.iconst 0, 1) := by decide +kernel
theorem dX6_countOf_1 : decode cX6_countOf 1 = .ok (.istore_n 2, 1) := by decide +kernel
theorem dX6_countOf_2 : decode cX6_countOf 2 = .ok (.iconst 0, 1) := by decide +kernel
theorem dX6_countOf_3 : decode cX6_countOf 3 = .ok (.istore_n 3, 1) := by decide +kernel
theorem dX6_countOf_4 : decode cX6_countOf 4 = .ok (.iload_n 3, 1) := by decide +kernel
theorem dX6_countOf_5 : decode cX6_countOf 5 = .ok (.aload_n 0, 1) := by decide +kernel
theorem dX6_countOf_6 : decode cX6_countOf 6 = .ok (.invokevirtual 205, 3) := by decide +kernel
theorem dX6_countOf_9 : decode cX6_countOf 9 = .ok (.if_icmp .ge 38, 3) := by decide +kernel
theorem dX6_countOf_12 : decode cX6_countOf 12 = .ok (.iload_n 2, 1) := by decide +kernel
theorem dX6_countOf_13 : decode cX6_countOf 13 = .ok (.aload_n 0, 1) := by decide +kernel
theorem dX6_countOf_14 : decode cX6_countOf 14 = .ok (.iload_n 3, 1) := by decide +kernel
theorem dX6_countOf_15 : decode cX6_countOf 15 = .ok (.invokevirtual 208, 3) := by decide +kernel
theorem dX6_countOf_18 : decode cX6_countOf 18 = .ok (.ifCond .eq 20, 3) := by decide +kernel
theorem dX6_countOf_21 : decode cX6_countOf 21 = .ok (.aload_n 0, 1) := by decide +kernel
theorem dX6_countOf_22 : decode cX6_countOf 22 = .ok (.getfield 17, 3) := by decide +kernel
theorem dX6_countOf_25 : decode cX6_countOf 25 = .ok (.bipush 74, 2) := by decide +kernel
theorem dX6_countOf_27 : decode cX6_countOf 27 = .ok (.iload_n 3, 1) := by decide +kernel
theorem dX6_countOf_28 : decode cX6_countOf 28 = .ok (.iadd, 1) := by decide +kernel
theorem dX6_countOf_29 : decode cX6_countOf 29 = .ok (.iaload, 1) := by decide +kernel
theorem dX6_countOf_30 : decode cX6_countOf 30 = .ok (.iload_n 1, 1) := by decide +kernel
theorem dX6_countOf_31 : decode cX6_countOf 31 = .ok (.if_icmp .ne 7, 3) := by decide +kernel
theorem dX6_countOf_34 : decode cX6_countOf 34 = .ok (.iconst 1, 1) := by decide +kernel
theorem dX6_countOf_35 : decode cX6_countOf 35 = .ok (.goto 4, 3) := by decide +kernel
theorem dX6_countOf_38 : decode cX6_countOf 38 = .ok (.iconst 0, 1) := by decide +kernel
theorem dX6_countOf_39 : decode cX6_countOf 39 = .ok (.iadd, 1) := by decide +kernel
theorem dX6_countOf_40 : decode cX6_countOf 40 = .ok (.istore_n 2, 1) := by decide +kernel
theorem dX6_countOf_41 : decode cX6_countOf 41 = .ok (.iinc 3 1, 3) := by decide +kernel
theorem dX6_countOf_44 : decode cX6_countOf 44 = .ok (.goto (-40), 3) := by decide +kernel
theorem dX6_countOf_47 : decode cX6_countOf 47 = .ok (.iload_n 2, 1) := by decide +kernel
theorem dX6_countOf_48 : decode cX6_countOf 48 = .ok (.ireturn, 1) := by decide +kernel
theorem dX6_unlikeNow_0 : decode cX6_unlikeNow 0 = .ok (.iconst 0, 1) := by decide +kernel
theorem dX6_unlikeNow_1 : decode cX6_unlikeNow 1 = .ok (.istore_n 1, 1) := by decide +kernel
theorem dX6_unlikeNow_2 : decode cX6_unlikeNow 2 = .ok (.iconst 0, 1) := by decide +kernel
theorem dX6_unlikeNow_3 : decode cX6_unlikeNow 3 = .ok (.istore_n 2, 1) := by decide +kernel
theorem dX6_unlikeNow_4 : decode cX6_unlikeNow 4 = .ok (.iload_n 2, 1) := by decide +kernel
theorem dX6_unlikeNow_5 : decode cX6_unlikeNow 5 = .ok (.aload_n 0, 1) := by decide +kernel
theorem dX6_unlikeNow_6 : decode cX6_unlikeNow 6 = .ok (.invokevirtual 205, 3) := by decide +kernel
theorem dX6_unlikeNow_9 : decode cX6_unlikeNow 9 = .ok (.if_icmp .ge 66, 3) := by decide +kernel
theorem dX6_unlikeNow_12 : decode cX6_unlikeNow 12 = .ok (.iload_n 1, 1) := by decide +kernel
theorem dX6_unlikeNow_13 : decode cX6_unlikeNow 13 = .ok (.aload_n 0, 1) := by decide +kernel
theorem dX6_unlikeNow_14 : decode cX6_unlikeNow 14 = .ok (.iload_n 2, 1) := by decide +kernel
theorem dX6_unlikeNow_15 : decode cX6_unlikeNow 15 = .ok (.invokevirtual 208, 3) := by decide +kernel
theorem dX6_unlikeNow_18 : decode cX6_unlikeNow 18 = .ok (.ifCond .eq 48, 3) := by decide +kernel
theorem dX6_unlikeNow_21 : decode cX6_unlikeNow 21 = .ok (.aload_n 0, 1) := by decide +kernel
theorem dX6_unlikeNow_22 : decode cX6_unlikeNow 22 = .ok (.iload_n 2, 1) := by decide +kernel
theorem dX6_unlikeNow_23 : decode cX6_unlikeNow 23 = .ok (.invokevirtual 192, 3) := by decide +kernel
theorem dX6_unlikeNow_26 : decode cX6_unlikeNow 26 = .ok (.aload_n 0, 1) := by decide +kernel
theorem dX6_unlikeNow_27 : decode cX6_unlikeNow 27 = .ok (.getfield 17, 3) := by decide +kernel
theorem dX6_unlikeNow_30 : decode cX6_unlikeNow 30 = .ok (.iconst 0, 1) := by decide +kernel
theorem dX6_unlikeNow_31 : decode cX6_unlikeNow 31 = .ok (.iaload, 1) := by decide +kernel
theorem dX6_unlikeNow_32 : decode cX6_unlikeNow 32 = .ok (.iconst 2, 1) := by decide +kernel
theorem dX6_unlikeNow_33 : decode cX6_unlikeNow 33 = .ok (.idiv, 1) := by decide +kernel
theorem dX6_unlikeNow_34 : decode cX6_unlikeNow 34 = .ok (.if_icmp .ge 32, 3) := by decide +kernel
theorem dX6_unlikeNow_37 : decode cX6_unlikeNow 37 = .ok (.aload_n 0, 1) := by decide +kernel
theorem dX6_unlikeNow_38 : decode cX6_unlikeNow 38 = .ok (.getfield 17, 3) := by decide +kernel
theorem dX6_unlikeNow_41 : decode cX6_unlikeNow 41 = .ok (.bipush 74, 2) := by decide +kernel
theorem dX6_unlikeNow_43 : decode cX6_unlikeNow 43 = .ok (.iload_n 2, 1) := by decide +kernel
theorem dX6_unlikeNow_44 : decode cX6_unlikeNow 44 = .ok (.iadd, 1) := by decide +kernel
theorem dX6_unlikeNow_45 : decode cX6_unlikeNow 45 = .ok (.iaload, 1) := by decide +kernel
theorem dX6_unlikeNow_46 : decode cX6_unlikeNow 46 = .ok (.aload_n 0, 1) := by decide +kernel
theorem dX6_unlikeNow_47 : decode cX6_unlikeNow 47 = .ok (.getfield 17, 3) := by decide +kernel
theorem dX6_unlikeNow_50 : decode cX6_unlikeNow 50 = .ok (.bipush 74, 2) := by decide +kernel
theorem dX6_unlikeNow_52 : decode cX6_unlikeNow 52 = .ok (.aload_n 0, 1) := by decide +kernel
theorem dX6_unlikeNow_53 : decode cX6_unlikeNow 53 = .ok (.iload_n 2, 1) := by decide +kernel
theorem dX6_unlikeNow_54 : decode cX6_unlikeNow 54 = .ok (.invokevirtual 237, 3) := by decide +kernel
theorem dX6_unlikeNow_57 : decode cX6_unlikeNow 57 = .ok (.iadd, 1) := by decide +kernel
theorem dX6_unlikeNow_58 : decode cX6_unlikeNow 58 = .ok (.iaload, 1) := by decide +kernel
theorem dX6_unlikeNow_59 : decode cX6_unlikeNow 59 = .ok (.if_icmp .eq 7, 3) := by decide +kernel
theorem dX6_unlikeNow_62 : decode cX6_unlikeNow 62 = .ok (.iconst 1, 1) := by decide +kernel
theorem dX6_unlikeNow_63 : decode cX6_unlikeNow 63 = .ok (.goto 4, 3) := by decide +kernel
theorem dX6_unlikeNow_66 : decode cX6_unlikeNow 66 = .ok (.iconst 0, 1) := by decide +kernel
theorem dX6_unlikeNow_67 : decode cX6_unlikeNow 67 = .ok (.iadd, 1) := by decide +kernel
theorem dX6_unlikeNow_68 : decode cX6_unlikeNow 68 = .ok (.istore_n 1, 1) := by decide +kernel
theorem dX6_unlikeNow_69 : decode cX6_unlikeNow 69 = .ok (.iinc 2 1, 3) := by decide +kernel
theorem dX6_unlikeNow_72 : decode cX6_unlikeNow 72 = .ok (.goto (-68), 3) := by decide +kernel
theorem dX6_unlikeNow_75 : decode cX6_unlikeNow 75 = .ok (.iload_n 1, 1) := by decide +kernel
theorem dX6_unlikeNow_76 : decode cX6_unlikeNow 76 = .ok (.ireturn, 1) := by decide +kernel
theorem dX6_clearMarks_0 : decode cX6_clearMarks 0 = .ok (.iconst 0, 1) := by decide +kernel
theorem dX6_clearMarks_1 : decode cX6_clearMarks 1 = .ok (.istore_n 1, 1) := by decide +kernel
theorem dX6_clearMarks_2 : decode cX6_clearMarks 2 = .ok (.iload_n 1, 1) := by decide +kernel
theorem dX6_clearMarks_3 : decode cX6_clearMarks 3 = .ok (.sipush 180, 3) := by decide +kernel
theorem dX6_clearMarks_6 : decode cX6_clearMarks 6 = .ok (.if_icmp .ge 16, 3) := by decide +kernel
theorem dX6_clearMarks_9 : decode cX6_clearMarks 9 = .ok (.aload_n 0, 1) := by decide +kernel
theorem dX6_clearMarks_10 : decode cX6_clearMarks 10 = .ok (.getfield 40, 3) := by decide +kernel
theorem dX6_clearMarks_13 : decode cX6_clearMarks 13 = .ok (.iload_n 1, 1) := by decide +kernel
theorem dX6_clearMarks_14 : decode cX6_clearMarks 14 = .ok (.iconst 0, 1) := by decide +kernel
theorem dX6_clearMarks_15 : decode cX6_clearMarks 15 = .ok (.bastore, 1) := by decide +kernel
theorem dX6_clearMarks_16 : decode cX6_clearMarks 16 = .ok (.iinc 1 1, 3) := by decide +kernel
theorem dX6_clearMarks_19 : decode cX6_clearMarks 19 = .ok (.goto (-17), 3) := by decide +kernel
theorem dX6_clearMarks_22 : decode cX6_clearMarks 22 = .ok (.return_, 1) := by decide +kernel
theorem dX6_mark_0 : decode cX6_mark 0 = .ok (.iconst 1, 1) := by decide +kernel
theorem dX6_mark_1 : decode cX6_mark 1 = .ok (.istore_n 2, 1) := by decide +kernel
theorem dX6_mark_2 : decode cX6_mark 2 = .ok (.iconst 0, 1) := by decide +kernel
theorem dX6_mark_3 : decode cX6_mark 3 = .ok (.istore_n 3, 1) := by decide +kernel
theorem dX6_mark_4 : decode cX6_mark 4 = .ok (.aload_n 0, 1) := by decide +kernel
theorem dX6_mark_5 : decode cX6_mark 5 = .ok (.getfield 40, 3) := by decide +kernel
theorem dX6_mark_8 : decode cX6_mark 8 = .ok (.iload_n 1, 1) := by decide +kernel
theorem dX6_mark_9 : decode cX6_mark 9 = .ok (.iconst 1, 1) := by decide +kernel
theorem dX6_mark_10 : decode cX6_mark 10 = .ok (.bastore, 1) := by decide +kernel
theorem dX6_mark_11 : decode cX6_mark 11 = .ok (.aload_n 0, 1) := by decide +kernel
theorem dX6_mark_12 : decode cX6_mark 12 = .ok (.getfield 44, 3) := by decide +kernel
theorem dX6_mark_15 : decode cX6_mark 15 = .ok (.iconst 0, 1) := by decide +kernel
theorem dX6_mark_16 : decode cX6_mark 16 = .ok (.iload_n 1, 1) := by decide +kernel
theorem dX6_mark_17 : decode cX6_mark 17 = .ok (.iastore, 1) := by decide +kernel
theorem dX6_mark_18 : decode cX6_mark 18 = .ok (.iload_n 3, 1) := by decide +kernel
theorem dX6_mark_19 : decode cX6_mark 19 = .ok (.iload_n 2, 1) := by decide +kernel
theorem dX6_mark_20 : decode cX6_mark 20 = .ok (.if_icmp .ge 102, 3) := by decide +kernel
theorem dX6_mark_23 : decode cX6_mark 23 = .ok (.aload_n 0, 1) := by decide +kernel
theorem dX6_mark_24 : decode cX6_mark 24 = .ok (.getfield 44, 3) := by decide +kernel
theorem dX6_mark_27 : decode cX6_mark 27 = .ok (.iload_n 3, 1) := by decide +kernel
theorem dX6_mark_28 : decode cX6_mark 28 = .ok (.iaload, 1) := by decide +kernel
theorem dX6_mark_29 : decode cX6_mark 29 = .ok (.istore 4, 2) := by decide +kernel
theorem dX6_mark_31 : decode cX6_mark 31 = .ok (.iinc 3 1, 3) := by decide +kernel
theorem dX6_mark_34 : decode cX6_mark 34 = .ok (.iconst 0, 1) := by decide +kernel
theorem dX6_mark_35 : decode cX6_mark 35 = .ok (.istore 5, 2) := by decide +kernel
theorem dX6_mark_37 : decode cX6_mark 37 = .ok (.iload 5, 2) := by decide +kernel
theorem dX6_mark_39 : decode cX6_mark 39 = .ok (.iconst 4, 1) := by decide +kernel
theorem dX6_mark_40 : decode cX6_mark 40 = .ok (.if_icmp .ge 79, 3) := by decide +kernel
theorem dX6_mark_43 : decode cX6_mark 43 = .ok (.aload_n 0, 1) := by decide +kernel
theorem dX6_mark_44 : decode cX6_mark 44 = .ok (.iload 4, 2) := by decide +kernel
theorem dX6_mark_46 : decode cX6_mark 46 = .ok (.iload 5, 2) := by decide +kernel
theorem dX6_mark_48 : decode cX6_mark 48 = .ok (.invokevirtual 225, 3) := by decide +kernel
theorem dX6_mark_51 : decode cX6_mark 51 = .ok (.istore 6, 2) := by decide +kernel
theorem dX6_mark_53 : decode cX6_mark 53 = .ok (.iload 6, 2) := by decide +kernel
theorem dX6_mark_55 : decode cX6_mark 55 = .ok (.iconst (-1), 1) := by decide +kernel
theorem dX6_mark_56 : decode cX6_mark 56 = .ok (.if_icmp .eq 57, 3) := by decide +kernel
theorem dX6_mark_59 : decode cX6_mark 59 = .ok (.aload_n 0, 1) := by decide +kernel
theorem dX6_mark_60 : decode cX6_mark 60 = .ok (.getfield 40, 3) := by decide +kernel
theorem dX6_mark_63 : decode cX6_mark 63 = .ok (.iload 6, 2) := by decide +kernel
theorem dX6_mark_65 : decode cX6_mark 65 = .ok (.baload, 1) := by decide +kernel
theorem dX6_mark_66 : decode cX6_mark 66 = .ok (.ifCond .ne 47, 3) := by decide +kernel
theorem dX6_mark_69 : decode cX6_mark 69 = .ok (.aload_n 0, 1) := by decide +kernel
theorem dX6_mark_70 : decode cX6_mark 70 = .ok (.getfield 17, 3) := by decide +kernel
theorem dX6_mark_73 : decode cX6_mark 73 = .ok (.bipush 74, 2) := by decide +kernel
theorem dX6_mark_75 : decode cX6_mark 75 = .ok (.iload 6, 2) := by decide +kernel
theorem dX6_mark_77 : decode cX6_mark 77 = .ok (.iadd, 1) := by decide +kernel
theorem dX6_mark_78 : decode cX6_mark 78 = .ok (.iaload, 1) := by decide +kernel
theorem dX6_mark_79 : decode cX6_mark 79 = .ok (.aload_n 0, 1) := by decide +kernel
theorem dX6_mark_80 : decode cX6_mark 80 = .ok (.getfield 17, 3) := by decide +kernel
theorem dX6_mark_83 : decode cX6_mark 83 = .ok (.bipush 74, 2) := by decide +kernel
theorem dX6_mark_85 : decode cX6_mark 85 = .ok (.iload_n 1, 1) := by decide +kernel
theorem dX6_mark_86 : decode cX6_mark 86 = .ok (.iadd, 1) := by decide +kernel
theorem dX6_mark_87 : decode cX6_mark 87 = .ok (.iaload, 1) := by decide +kernel
theorem dX6_mark_88 : decode cX6_mark 88 = .ok (.if_icmp .eq 6, 3) := by decide +kernel
theorem dX6_mark_91 : decode cX6_mark 91 = .ok (.goto 22, 3) := by decide +kernel
theorem dX6_mark_94 : decode cX6_mark 94 = .ok (.aload_n 0, 1) := by decide +kernel
theorem dX6_mark_95 : decode cX6_mark 95 = .ok (.getfield 40, 3) := by decide +kernel
theorem dX6_mark_98 : decode cX6_mark 98 = .ok (.iload 6, 2) := by decide +kernel
theorem dX6_mark_100 : decode cX6_mark 100 = .ok (.iconst 1, 1) := by decide +kernel
theorem dX6_mark_101 : decode cX6_mark 101 = .ok (.bastore, 1) := by decide +kernel
theorem dX6_mark_102 : decode cX6_mark 102 = .ok (.aload_n 0, 1) := by decide +kernel
theorem dX6_mark_103 : decode cX6_mark 103 = .ok (.getfield 44, 3) := by decide +kernel
theorem dX6_mark_106 : decode cX6_mark 106 = .ok (.iload_n 2, 1) := by decide +kernel
theorem dX6_mark_107 : decode cX6_mark 107 = .ok (.iload 6, 2) := by decide +kernel
theorem dX6_mark_109 : decode cX6_mark 109 = .ok (.iastore, 1) := by decide +kernel
theorem dX6_mark_110 : decode cX6_mark 110 = .ok (.iinc 2 1, 3) := by decide +kernel
theorem dX6_mark_113 : decode cX6_mark 113 = .ok (.iinc 5 1, 3) := by decide +kernel
theorem dX6_mark_116 : decode cX6_mark 116 = .ok (.goto (-79), 3) := by decide +kernel
theorem dX6_mark_119 : decode cX6_mark 119 = .ok (.goto (-101), 3) := by decide +kernel
theorem dX6_mark_122 : decode cX6_mark 122 = .ok (.iload_n 2, 1) := by decide +kernel
theorem dX6_mark_123 : decode cX6_mark 123 = .ok (.ireturn, 1) := by decide +kernel
theorem dX6_spars_0 : decode cX6_spars 0 = .ok (.iconst 0, 1) := by decide +kernel
theorem dX6_spars_1 : decode cX6_spars 1 = .ok (.istore_n 1, 1) := by decide +kernel
theorem dX6_spars_2 : decode cX6_spars 2 = .ok (.iconst 0, 1) := by decide +kernel
theorem dX6_spars_3 : decode cX6_spars 3 = .ok (.istore_n 2, 1) := by decide +kernel
theorem dX6_spars_4 : decode cX6_spars 4 = .ok (.iload_n 2, 1) := by decide +kernel
theorem dX6_spars_5 : decode cX6_spars 5 = .ok (.aload_n 0, 1) := by decide +kernel
theorem dX6_spars_6 : decode cX6_spars 6 = .ok (.invokevirtual 205, 3) := by decide +kernel
theorem dX6_spars_9 : decode cX6_spars 9 = .ok (.if_icmp .ge 22, 3) := by decide +kernel
theorem dX6_spars_12 : decode cX6_spars 12 = .ok (.iload_n 1, 1) := by decide +kernel
theorem dX6_spars_13 : decode cX6_spars 13 = .ok (.aload_n 0, 1) := by decide +kernel
theorem dX6_spars_14 : decode cX6_spars 14 = .ok (.getfield 17, 3) := by decide +kernel
theorem dX6_spars_17 : decode cX6_spars 17 = .ok (.sipush 434, 3) := by decide +kernel
theorem dX6_spars_20 : decode cX6_spars 20 = .ok (.iload_n 2, 1) := by decide +kernel
theorem dX6_spars_21 : decode cX6_spars 21 = .ok (.iadd, 1) := by decide +kernel
theorem dX6_spars_22 : decode cX6_spars 22 = .ok (.iaload, 1) := by decide +kernel
theorem dX6_spars_23 : decode cX6_spars 23 = .ok (.iadd, 1) := by decide +kernel
theorem dX6_spars_24 : decode cX6_spars 24 = .ok (.istore_n 1, 1) := by decide +kernel
theorem dX6_spars_25 : decode cX6_spars 25 = .ok (.iinc 2 1, 3) := by decide +kernel
theorem dX6_spars_28 : decode cX6_spars 28 = .ok (.goto (-24), 3) := by decide +kernel
theorem dX6_spars_31 : decode cX6_spars 31 = .ok (.iload_n 1, 1) := by decide +kernel
theorem dX6_spars_32 : decode cX6_spars 32 = .ok (.ireturn, 1) := by decide +kernel
theorem dX6_told_0 : decode cX6_told 0 = .ok (.iload_n 1, 1) := by decide +kernel
theorem dX6_told_1 : decode cX6_told 1 = .ok (.tableswitch 133 0 11 #[63, 63, 63, 70, 75, 80, 86, 91, 97, 103, 108, 126], 63) := by decide +kernel
theorem dX6_told_64 : decode cX6_told 64 = .ok (.aload_n 0, 1) := by decide +kernel
theorem dX6_told_65 : decode cX6_told 65 = .ok (.getfield 17, 3) := by decide +kernel
theorem dX6_told_68 : decode cX6_told 68 = .ok (.iload_n 1, 1) := by decide +kernel
theorem dX6_told_69 : decode cX6_told 69 = .ok (.iaload, 1) := by decide +kernel
theorem dX6_told_70 : decode cX6_told 70 = .ok (.ireturn, 1) := by decide +kernel
theorem dX6_told_71 : decode cX6_told 71 = .ok (.aload_n 0, 1) := by decide +kernel
theorem dX6_told_72 : decode cX6_told 72 = .ok (.invokevirtual 189, 3) := by decide +kernel
theorem dX6_told_75 : decode cX6_told 75 = .ok (.ireturn, 1) := by decide +kernel
theorem dX6_told_76 : decode cX6_told 76 = .ok (.aload_n 0, 1) := by decide +kernel
theorem dX6_told_77 : decode cX6_told 77 = .ok (.invokevirtual 240, 3) := by decide +kernel
theorem dX6_told_80 : decode cX6_told 80 = .ok (.ireturn, 1) := by decide +kernel
theorem dX6_told_81 : decode cX6_told 81 = .ok (.aload_n 0, 1) := by decide +kernel
theorem dX6_told_82 : decode cX6_told 82 = .ok (.iconst 0, 1) := by decide +kernel
theorem dX6_told_83 : decode cX6_told 83 = .ok (.invokevirtual 243, 3) := by decide +kernel
theorem dX6_told_86 : decode cX6_told 86 = .ok (.ireturn, 1) := by decide +kernel
theorem dX6_told_87 : decode cX6_told 87 = .ok (.aload_n 0, 1) := by decide +kernel
theorem dX6_told_88 : decode cX6_told 88 = .ok (.invokevirtual 246, 3) := by decide +kernel
theorem dX6_told_91 : decode cX6_told 91 = .ok (.ireturn, 1) := by decide +kernel
theorem dX6_told_92 : decode cX6_told 92 = .ok (.aload_n 0, 1) := by decide +kernel
theorem dX6_told_93 : decode cX6_told 93 = .ok (.iconst (-1), 1) := by decide +kernel
theorem dX6_told_94 : decode cX6_told 94 = .ok (.invokevirtual 222, 3) := by decide +kernel
theorem dX6_told_97 : decode cX6_told 97 = .ok (.ireturn, 1) := by decide +kernel
theorem dX6_told_98 : decode cX6_told 98 = .ok (.aload_n 0, 1) := by decide +kernel
theorem dX6_told_99 : decode cX6_told 99 = .ok (.iconst 1, 1) := by decide +kernel
theorem dX6_told_100 : decode cX6_told 100 = .ok (.invokevirtual 222, 3) := by decide +kernel
theorem dX6_told_103 : decode cX6_told 103 = .ok (.ireturn, 1) := by decide +kernel
theorem dX6_told_104 : decode cX6_told 104 = .ok (.aload_n 0, 1) := by decide +kernel
theorem dX6_told_105 : decode cX6_told 105 = .ok (.invokevirtual 249, 3) := by decide +kernel
theorem dX6_told_108 : decode cX6_told 108 = .ok (.ireturn, 1) := by decide +kernel
theorem dX6_told_109 : decode cX6_told 109 = .ok (.aload_n 0, 1) := by decide +kernel
theorem dX6_told_110 : decode cX6_told 110 = .ok (.iconst (-1), 1) := by decide +kernel
theorem dX6_told_111 : decode cX6_told 111 = .ok (.invokevirtual 222, 3) := by decide +kernel
theorem dX6_told_114 : decode cX6_told 114 = .ok (.aload_n 0, 1) := by decide +kernel
theorem dX6_told_115 : decode cX6_told 115 = .ok (.iconst 0, 1) := by decide +kernel
theorem dX6_told_116 : decode cX6_told 116 = .ok (.invokevirtual 222, 3) := by decide +kernel
theorem dX6_told_119 : decode cX6_told 119 = .ok (.iadd, 1) := by decide +kernel
theorem dX6_told_120 : decode cX6_told 120 = .ok (.aload_n 0, 1) := by decide +kernel
theorem dX6_told_121 : decode cX6_told 121 = .ok (.iconst 1, 1) := by decide +kernel
theorem dX6_told_122 : decode cX6_told 122 = .ok (.invokevirtual 222, 3) := by decide +kernel
theorem dX6_told_125 : decode cX6_told 125 = .ok (.iadd, 1) := by decide +kernel
theorem dX6_told_126 : decode cX6_told 126 = .ok (.ireturn, 1) := by decide +kernel
theorem dX6_told_127 : decode cX6_told 127 = .ok (.aload_n 0, 1) := by decide +kernel
theorem dX6_told_128 : decode cX6_told 128 = .ok (.getfield 17, 3) := by decide +kernel
theorem dX6_told_131 : decode cX6_told 131 = .ok (.iconst 5, 1) := by decide +kernel
theorem dX6_told_132 : decode cX6_told 132 = .ok (.iaload, 1) := by decide +kernel
theorem dX6_told_133 : decode cX6_told 133 = .ok (.ireturn, 1) := by decide +kernel
theorem dX6_told_134 : decode cX6_told 134 = .ok (.aload_n 0, 1) := by decide +kernel
theorem dX6_told_135 : decode cX6_told 135 = .ok (.invokevirtual 252, 3) := by decide +kernel
theorem dX6_told_138 : decode cX6_told 138 = .ok (.ireturn, 1) := by decide +kernel
theorem dX6_state_0 : decode cX6_state 0 = .ok (.aload_n 0, 1) := by decide +kernel
theorem dX6_state_1 : decode cX6_state 1 = .ok (.iconst 0, 1) := by decide +kernel
theorem dX6_state_2 : decode cX6_state 2 = .ok (.putfield 51, 3) := by decide +kernel
theorem dX6_state_5 : decode cX6_state 5 = .ok (.aload_n 0, 1) := by decide +kernel
theorem dX6_state_6 : decode cX6_state 6 = .ok (.iload_n 1, 1) := by decide +kernel
theorem dX6_state_7 : decode cX6_state 7 = .ok (.iconst 0, 1) := by decide +kernel
theorem dX6_state_8 : decode cX6_state 8 = .ok (.bipush 12, 2) := by decide +kernel
theorem dX6_state_10 : decode cX6_state 10 = .ok (.invokestatic 54, 3) := by decide +kernel
theorem dX6_state_13 : decode cX6_state 13 = .ok (.ifCond .ne 7, 3) := by decide +kernel
theorem dX6_state_16 : decode cX6_state 16 = .ok (.iconst 1, 1) := by decide +kernel
theorem dX6_state_17 : decode cX6_state 17 = .ok (.goto 4, 3) := by decide +kernel
theorem dX6_state_20 : decode cX6_state 20 = .ok (.iconst 0, 1) := by decide +kernel
theorem dX6_state_21 : decode cX6_state 21 = .ok (.iconst 1, 1) := by decide +kernel
theorem dX6_state_22 : decode cX6_state 22 = .ok (.invokevirtual 173, 3) := by decide +kernel
theorem dX6_state_25 : decode cX6_state 25 = .ok (.ifCond .eq 7, 3) := by decide +kernel
theorem dX6_state_28 : decode cX6_state 28 = .ok (.iconst 0, 1) := by decide +kernel
theorem dX6_state_29 : decode cX6_state 29 = .ok (.goto 8, 3) := by decide +kernel
theorem dX6_state_32 : decode cX6_state 32 = .ok (.aload_n 0, 1) := by decide +kernel
theorem dX6_state_33 : decode cX6_state 33 = .ok (.iload_n 1, 1) := by decide +kernel
theorem dX6_state_34 : decode cX6_state 34 = .ok (.invokevirtual 255, 3) := by decide +kernel
theorem dX6_state_37 : decode cX6_state 37 = .ok (.ireturn, 1) := by decide +kernel
theorem dX6_noCell_0 : decode cX6_noCell 0 = .ok (.aload_n 0, 1) := by decide +kernel
theorem dX6_noCell_1 : decode cX6_noCell 1 = .ok (.aload_n 0, 1) := by decide +kernel
theorem dX6_noCell_2 : decode cX6_noCell 2 = .ok (.iload_n 1, 1) := by decide +kernel
theorem dX6_noCell_3 : decode cX6_noCell 3 = .ok (.iload_n 2, 1) := by decide +kernel
theorem dX6_noCell_4 : decode cX6_noCell 4 = .ok (.invokevirtual 198, 3) := by decide +kernel
theorem dX6_noCell_7 : decode cX6_noCell 7 = .ok (.ifCond .ne 7, 3) := by decide +kernel
theorem dX6_noCell_10 : decode cX6_noCell 10 = .ok (.iconst 1, 1) := by decide +kernel
theorem dX6_noCell_11 : decode cX6_noCell 11 = .ok (.goto 4, 3) := by decide +kernel
theorem dX6_noCell_14 : decode cX6_noCell 14 = .ok (.iconst 0, 1) := by decide +kernel
theorem dX6_noCell_15 : decode cX6_noCell 15 = .ok (.iconst 1, 1) := by decide +kernel
theorem dX6_noCell_16 : decode cX6_noCell 16 = .ok (.invokevirtual 173, 3) := by decide +kernel
theorem dX6_noCell_19 : decode cX6_noCell 19 = .ok (.ireturn, 1) := by decide +kernel
theorem dX6_at_0 : decode cX6_at 0 = .ok (.iload_n 2, 1) := by decide +kernel
theorem dX6_at_1 : decode cX6_at 1 = .ok (.aload_n 0, 1) := by decide +kernel
theorem dX6_at_2 : decode cX6_at 2 = .ok (.getfield 17, 3) := by decide +kernel
theorem dX6_at_5 : decode cX6_at 5 = .ok (.iconst 0, 1) := by decide +kernel
theorem dX6_at_6 : decode cX6_at 6 = .ok (.iaload, 1) := by decide +kernel
theorem dX6_at_7 : decode cX6_at 7 = .ok (.imul, 1) := by decide +kernel
theorem dX6_at_8 : decode cX6_at 8 = .ok (.iload_n 1, 1) := by decide +kernel
theorem dX6_at_9 : decode cX6_at 9 = .ok (.iadd, 1) := by decide +kernel
theorem dX6_at_10 : decode cX6_at 10 = .ok (.ireturn, 1) := by decide +kernel
theorem dX6_toldCell_0 : decode cX6_toldCell 0 = .ok (.iload_n 2, 1) := by decide +kernel
theorem dX6_toldCell_1 : decode cX6_toldCell 1 = .ok (.ifCond .ne 15, 3) := by decide +kernel
theorem dX6_toldCell_4 : decode cX6_toldCell 4 = .ok (.aload_n 0, 1) := by decide +kernel
theorem dX6_toldCell_5 : decode cX6_toldCell 5 = .ok (.getfield 17, 3) := by decide +kernel
theorem dX6_toldCell_8 : decode cX6_toldCell 8 = .ok (.bipush 74, 2) := by decide +kernel
theorem dX6_toldCell_10 : decode cX6_toldCell 10 = .ok (.iload_n 1, 1) := by decide +kernel
theorem dX6_toldCell_11 : decode cX6_toldCell 11 = .ok (.iadd, 1) := by decide +kernel
theorem dX6_toldCell_12 : decode cX6_toldCell 12 = .ok (.iaload, 1) := by decide +kernel
theorem dX6_toldCell_13 : decode cX6_toldCell 13 = .ok (.goto 57, 3) := by decide +kernel
theorem dX6_toldCell_16 : decode cX6_toldCell 16 = .ok (.iload_n 2, 1) := by decide +kernel
theorem dX6_toldCell_17 : decode cX6_toldCell 17 = .ok (.iconst 1, 1) := by decide +kernel
theorem dX6_toldCell_18 : decode cX6_toldCell 18 = .ok (.if_icmp .ne 16, 3) := by decide +kernel
theorem dX6_toldCell_21 : decode cX6_toldCell 21 = .ok (.aload_n 0, 1) := by decide +kernel
theorem dX6_toldCell_22 : decode cX6_toldCell 22 = .ok (.getfield 17, 3) := by decide +kernel
theorem dX6_toldCell_25 : decode cX6_toldCell 25 = .ok (.sipush 254, 3) := by decide +kernel
theorem dX6_toldCell_28 : decode cX6_toldCell 28 = .ok (.iload_n 1, 1) := by decide +kernel
theorem dX6_toldCell_29 : decode cX6_toldCell 29 = .ok (.iadd, 1) := by decide +kernel
theorem dX6_toldCell_30 : decode cX6_toldCell 30 = .ok (.iaload, 1) := by decide +kernel
theorem dX6_toldCell_31 : decode cX6_toldCell 31 = .ok (.goto 39, 3) := by decide +kernel
theorem dX6_toldCell_34 : decode cX6_toldCell 34 = .ok (.iload_n 2, 1) := by decide +kernel
theorem dX6_toldCell_35 : decode cX6_toldCell 35 = .ok (.iconst 2, 1) := by decide +kernel
theorem dX6_toldCell_36 : decode cX6_toldCell 36 = .ok (.if_icmp .ne 16, 3) := by decide +kernel
theorem dX6_toldCell_39 : decode cX6_toldCell 39 = .ok (.aload_n 0, 1) := by decide +kernel
theorem dX6_toldCell_40 : decode cX6_toldCell 40 = .ok (.getfield 17, 3) := by decide +kernel
theorem dX6_toldCell_43 : decode cX6_toldCell 43 = .ok (.sipush 434, 3) := by decide +kernel
theorem dX6_toldCell_46 : decode cX6_toldCell 46 = .ok (.iload_n 1, 1) := by decide +kernel
theorem dX6_toldCell_47 : decode cX6_toldCell 47 = .ok (.iadd, 1) := by decide +kernel
theorem dX6_toldCell_48 : decode cX6_toldCell 48 = .ok (.iaload, 1) := by decide +kernel
theorem dX6_toldCell_49 : decode cX6_toldCell 49 = .ok (.goto 21, 3) := by decide +kernel
theorem dX6_toldCell_52 : decode cX6_toldCell 52 = .ok (.iload_n 2, 1) := by decide +kernel
theorem dX6_toldCell_53 : decode cX6_toldCell 53 = .ok (.iconst 3, 1) := by decide +kernel
theorem dX6_toldCell_54 : decode cX6_toldCell 54 = .ok (.if_icmp .ne 11, 3) := by decide +kernel
theorem dX6_toldCell_57 : decode cX6_toldCell 57 = .ok (.aload_n 0, 1) := by decide +kernel
theorem dX6_toldCell_58 : decode cX6_toldCell 58 = .ok (.iload_n 1, 1) := by decide +kernel
theorem dX6_toldCell_59 : decode cX6_toldCell 59 = .ok (.invokevirtual 219, 3) := by decide +kernel
theorem dX6_toldCell_62 : decode cX6_toldCell 62 = .ok (.goto 8, 3) := by decide +kernel
theorem dX6_toldCell_65 : decode cX6_toldCell 65 = .ok (.aload_n 0, 1) := by decide +kernel
theorem dX6_toldCell_66 : decode cX6_toldCell 66 = .ok (.iload_n 1, 1) := by decide +kernel
theorem dX6_toldCell_67 : decode cX6_toldCell 67 = .ok (.invokevirtual 237, 3) := by decide +kernel
theorem dX6_toldCell_70 : decode cX6_toldCell 70 = .ok (.ireturn, 1) := by decide +kernel
theorem dX6_cell_0 : decode cX6_cell 0 = .ok (.aload_n 0, 1) := by decide +kernel
theorem dX6_cell_1 : decode cX6_cell 1 = .ok (.iconst 0, 1) := by decide +kernel
theorem dX6_cell_2 : decode cX6_cell 2 = .ok (.putfield 51, 3) := by decide +kernel
theorem dX6_cell_5 : decode cX6_cell 5 = .ok (.aload_n 0, 1) := by decide +kernel
theorem dX6_cell_6 : decode cX6_cell 6 = .ok (.iload_n 1, 1) := by decide +kernel
theorem dX6_cell_7 : decode cX6_cell 7 = .ok (.iload_n 2, 1) := by decide +kernel
theorem dX6_cell_8 : decode cX6_cell 8 = .ok (.invokevirtual 258, 3) := by decide +kernel
theorem dX6_cell_11 : decode cX6_cell 11 = .ok (.ifCond .ne 25, 3) := by decide +kernel
theorem dX6_cell_14 : decode cX6_cell 14 = .ok (.aload_n 0, 1) := by decide +kernel
theorem dX6_cell_15 : decode cX6_cell 15 = .ok (.iload_n 3, 1) := by decide +kernel
theorem dX6_cell_16 : decode cX6_cell 16 = .ok (.iconst 0, 1) := by decide +kernel
theorem dX6_cell_17 : decode cX6_cell 17 = .ok (.iconst 4, 1) := by decide +kernel
theorem dX6_cell_18 : decode cX6_cell 18 = .ok (.invokestatic 54, 3) := by decide +kernel
theorem dX6_cell_21 : decode cX6_cell 21 = .ok (.ifCond .ne 7, 3) := by decide +kernel
theorem dX6_cell_24 : decode cX6_cell 24 = .ok (.iconst 1, 1) := by decide +kernel
theorem dX6_cell_25 : decode cX6_cell 25 = .ok (.goto 4, 3) := by decide +kernel
theorem dX6_cell_28 : decode cX6_cell 28 = .ok (.iconst 0, 1) := by decide +kernel
theorem dX6_cell_29 : decode cX6_cell 29 = .ok (.iconst 2, 1) := by decide +kernel
theorem dX6_cell_30 : decode cX6_cell 30 = .ok (.invokevirtual 173, 3) := by decide +kernel
theorem dX6_cell_33 : decode cX6_cell 33 = .ok (.ifCond .eq 7, 3) := by decide +kernel
theorem dX6_cell_36 : decode cX6_cell 36 = .ok (.iconst 0, 1) := by decide +kernel
theorem dX6_cell_37 : decode cX6_cell 37 = .ok (.goto 14, 3) := by decide +kernel
theorem dX6_cell_40 : decode cX6_cell 40 = .ok (.aload_n 0, 1) := by decide +kernel
theorem dX6_cell_41 : decode cX6_cell 41 = .ok (.aload_n 0, 1) := by decide +kernel
theorem dX6_cell_42 : decode cX6_cell 42 = .ok (.iload_n 1, 1) := by decide +kernel
theorem dX6_cell_43 : decode cX6_cell 43 = .ok (.iload_n 2, 1) := by decide +kernel
theorem dX6_cell_44 : decode cX6_cell 44 = .ok (.invokevirtual 261, 3) := by decide +kernel
theorem dX6_cell_47 : decode cX6_cell 47 = .ok (.iload_n 3, 1) := by decide +kernel
theorem dX6_cell_48 : decode cX6_cell 48 = .ok (.invokevirtual 264, 3) := by decide +kernel
theorem dX6_cell_51 : decode cX6_cell 51 = .ok (.ireturn, 1) := by decide +kernel
theorem dX6_mix_0 : decode cX6_mix 0 = .ok (.aload_n 0, 1) := by decide +kernel
theorem dX6_mix_1 : decode cX6_mix 1 = .ok (.iconst 0, 1) := by decide +kernel
theorem dX6_mix_2 : decode cX6_mix 2 = .ok (.putfield 51, 3) := by decide +kernel
theorem dX6_mix_5 : decode cX6_mix 5 = .ok (.aload_n 0, 1) := by decide +kernel
theorem dX6_mix_6 : decode cX6_mix 6 = .ok (.iload_n 1, 1) := by decide +kernel
theorem dX6_mix_7 : decode cX6_mix 7 = .ok (.iconst 1, 1) := by decide +kernel
theorem dX6_mix_8 : decode cX6_mix 8 = .ok (.bipush 6, 2) := by decide +kernel
theorem dX6_mix_10 : decode cX6_mix 10 = .ok (.invokestatic 54, 3) := by decide +kernel
theorem dX6_mix_13 : decode cX6_mix 13 = .ok (.ifCond .eq 13, 3) := by decide +kernel
theorem dX6_mix_16 : decode cX6_mix 16 = .ok (.iload_n 2, 1) := by decide +kernel
theorem dX6_mix_17 : decode cX6_mix 17 = .ok (.iconst 1, 1) := by decide +kernel
theorem dX6_mix_18 : decode cX6_mix 18 = .ok (.bipush 6, 2) := by decide +kernel
theorem dX6_mix_20 : decode cX6_mix 20 = .ok (.invokestatic 54, 3) := by decide +kernel
theorem dX6_mix_23 : decode cX6_mix 23 = .ok (.ifCond .ne 7, 3) := by decide +kernel
theorem dX6_mix_26 : decode cX6_mix 26 = .ok (.iconst 1, 1) := by decide +kernel
theorem dX6_mix_27 : decode cX6_mix 27 = .ok (.goto 4, 3) := by decide +kernel
theorem dX6_mix_30 : decode cX6_mix 30 = .ok (.iconst 0, 1) := by decide +kernel
theorem dX6_mix_31 : decode cX6_mix 31 = .ok (.iconst 1, 1) := by decide +kernel
theorem dX6_mix_32 : decode cX6_mix 32 = .ok (.invokevirtual 173, 3) := by decide +kernel
theorem dX6_mix_35 : decode cX6_mix 35 = .ok (.ifCond .eq 7, 3) := by decide +kernel
theorem dX6_mix_38 : decode cX6_mix 38 = .ok (.iconst 0, 1) := by decide +kernel
theorem dX6_mix_39 : decode cX6_mix 39 = .ok (.goto 9, 3) := by decide +kernel
theorem dX6_mix_42 : decode cX6_mix 42 = .ok (.aload_n 0, 1) := by decide +kernel
theorem dX6_mix_43 : decode cX6_mix 43 = .ok (.iload_n 1, 1) := by decide +kernel
theorem dX6_mix_44 : decode cX6_mix 44 = .ok (.iload_n 2, 1) := by decide +kernel
theorem dX6_mix_45 : decode cX6_mix 45 = .ok (.invokevirtual 234, 3) := by decide +kernel
theorem dX6_mix_48 : decode cX6_mix 48 = .ok (.ireturn, 1) := by decide +kernel
theorem dX6_count_0 : decode cX6_count 0 = .ok (.aload_n 0, 1) := by decide +kernel
theorem dX6_count_1 : decode cX6_count 1 = .ok (.iconst 0, 1) := by decide +kernel
theorem dX6_count_2 : decode cX6_count 2 = .ok (.putfield 51, 3) := by decide +kernel
theorem dX6_count_5 : decode cX6_count 5 = .ok (.aload_n 0, 1) := by decide +kernel
theorem dX6_count_6 : decode cX6_count 6 = .ok (.iload_n 1, 1) := by decide +kernel
theorem dX6_count_7 : decode cX6_count 7 = .ok (.iconst 0, 1) := by decide +kernel
theorem dX6_count_8 : decode cX6_count 8 = .ok (.bipush 6, 2) := by decide +kernel
theorem dX6_count_10 : decode cX6_count 10 = .ok (.invokestatic 54, 3) := by decide +kernel
theorem dX6_count_13 : decode cX6_count 13 = .ok (.ifCond .ne 7, 3) := by decide +kernel
theorem dX6_count_16 : decode cX6_count 16 = .ok (.iconst 1, 1) := by decide +kernel
theorem dX6_count_17 : decode cX6_count 17 = .ok (.goto 4, 3) := by decide +kernel
theorem dX6_count_20 : decode cX6_count 20 = .ok (.iconst 0, 1) := by decide +kernel
theorem dX6_count_21 : decode cX6_count 21 = .ok (.iconst 1, 1) := by decide +kernel
theorem dX6_count_22 : decode cX6_count 22 = .ok (.invokevirtual 173, 3) := by decide +kernel
theorem dX6_count_25 : decode cX6_count 25 = .ok (.ifCond .eq 7, 3) := by decide +kernel
theorem dX6_count_28 : decode cX6_count 28 = .ok (.iconst 0, 1) := by decide +kernel
theorem dX6_count_29 : decode cX6_count 29 = .ok (.goto 8, 3) := by decide +kernel
theorem dX6_count_32 : decode cX6_count 32 = .ok (.aload_n 0, 1) := by decide +kernel
theorem dX6_count_33 : decode cX6_count 33 = .ok (.iload_n 1, 1) := by decide +kernel
theorem dX6_count_34 : decode cX6_count 34 = .ok (.invokevirtual 243, 3) := by decide +kernel
theorem dX6_count_37 : decode cX6_count 37 = .ok (.ireturn, 1) := by decide +kernel
theorem dX6_unlike_0 : decode cX6_unlike 0 = .ok (.aload_n 0, 1) := by decide +kernel
theorem dX6_unlike_1 : decode cX6_unlike 1 = .ok (.iconst 0, 1) := by decide +kernel
theorem dX6_unlike_2 : decode cX6_unlike 2 = .ok (.putfield 51, 3) := by decide +kernel
theorem dX6_unlike_5 : decode cX6_unlike 5 = .ok (.aload_n 0, 1) := by decide +kernel
theorem dX6_unlike_6 : decode cX6_unlike 6 = .ok (.invokevirtual 267, 3) := by decide +kernel
theorem dX6_unlike_9 : decode cX6_unlike 9 = .ok (.ireturn, 1) := by decide +kernel
theorem dX6_region_0 : decode cX6_region 0 = .ok (.aload_n 0, 1) := by decide +kernel
theorem dX6_region_1 : decode cX6_region 1 = .ok (.iconst 0, 1) := by decide +kernel
theorem dX6_region_2 : decode cX6_region 2 = .ok (.putfield 51, 3) := by decide +kernel
theorem dX6_region_5 : decode cX6_region 5 = .ok (.aload_n 0, 1) := by decide +kernel
theorem dX6_region_6 : decode cX6_region 6 = .ok (.iload_n 1, 1) := by decide +kernel
theorem dX6_region_7 : decode cX6_region 7 = .ok (.iload_n 2, 1) := by decide +kernel
theorem dX6_region_8 : decode cX6_region 8 = .ok (.invokevirtual 258, 3) := by decide +kernel
theorem dX6_region_11 : decode cX6_region 11 = .ok (.ifCond .eq 5, 3) := by decide +kernel
theorem dX6_region_14 : decode cX6_region 14 = .ok (.iconst 0, 1) := by decide +kernel
theorem dX6_region_15 : decode cX6_region 15 = .ok (.ireturn, 1) := by decide +kernel
theorem dX6_region_16 : decode cX6_region 16 = .ok (.aload_n 0, 1) := by decide +kernel
theorem dX6_region_17 : decode cX6_region 17 = .ok (.invokevirtual 270, 3) := by decide +kernel
theorem dX6_region_20 : decode cX6_region 20 = .ok (.aload_n 0, 1) := by decide +kernel
theorem dX6_region_21 : decode cX6_region 21 = .ok (.aload_n 0, 1) := by decide +kernel
theorem dX6_region_22 : decode cX6_region 22 = .ok (.iload_n 1, 1) := by decide +kernel
theorem dX6_region_23 : decode cX6_region 23 = .ok (.iload_n 2, 1) := by decide +kernel
theorem dX6_region_24 : decode cX6_region 24 = .ok (.invokevirtual 261, 3) := by decide +kernel
theorem dX6_region_27 : decode cX6_region 27 = .ok (.invokevirtual 273, 3) := by decide +kernel
theorem dX6_region_30 : decode cX6_region 30 = .ok (.ireturn, 1) := by decide +kernel
theorem dX6_regions_0 : decode cX6_regions 0 = .ok (.aload_n 0, 1) := by decide +kernel
theorem dX6_regions_1 : decode cX6_regions 1 = .ok (.iconst 0, 1) := by decide +kernel
theorem dX6_regions_2 : decode cX6_regions 2 = .ok (.putfield 51, 3) := by decide +kernel
theorem dX6_regions_5 : decode cX6_regions 5 = .ok (.aload_n 0, 1) := by decide +kernel
theorem dX6_regions_6 : decode cX6_regions 6 = .ok (.iload_n 1, 1) := by decide +kernel
theorem dX6_regions_7 : decode cX6_regions 7 = .ok (.iconst 0, 1) := by decide +kernel
theorem dX6_regions_8 : decode cX6_regions 8 = .ok (.bipush 6, 2) := by decide +kernel
theorem dX6_regions_10 : decode cX6_regions 10 = .ok (.invokestatic 54, 3) := by decide +kernel
theorem dX6_regions_13 : decode cX6_regions 13 = .ok (.ifCond .ne 7, 3) := by decide +kernel
theorem dX6_regions_16 : decode cX6_regions 16 = .ok (.iconst 1, 1) := by decide +kernel
theorem dX6_regions_17 : decode cX6_regions 17 = .ok (.goto 4, 3) := by decide +kernel
theorem dX6_regions_20 : decode cX6_regions 20 = .ok (.iconst 0, 1) := by decide +kernel
theorem dX6_regions_21 : decode cX6_regions 21 = .ok (.iconst 1, 1) := by decide +kernel
theorem dX6_regions_22 : decode cX6_regions 22 = .ok (.invokevirtual 173, 3) := by decide +kernel
theorem dX6_regions_25 : decode cX6_regions 25 = .ok (.ifCond .eq 5, 3) := by decide +kernel
theorem dX6_regions_28 : decode cX6_regions 28 = .ok (.iconst 0, 1) := by decide +kernel
theorem dX6_regions_29 : decode cX6_regions 29 = .ok (.ireturn, 1) := by decide +kernel
theorem dX6_regions_30 : decode cX6_regions 30 = .ok (.iconst 0, 1) := by decide +kernel
theorem dX6_regions_31 : decode cX6_regions 31 = .ok (.istore_n 2, 1) := by decide +kernel
theorem dX6_regions_32 : decode cX6_regions 32 = .ok (.aload_n 0, 1) := by decide +kernel
theorem dX6_regions_33 : decode cX6_regions 33 = .ok (.invokevirtual 270, 3) := by decide +kernel
theorem dX6_regions_36 : decode cX6_regions 36 = .ok (.iconst 0, 1) := by decide +kernel
theorem dX6_regions_37 : decode cX6_regions 37 = .ok (.istore_n 3, 1) := by decide +kernel
theorem dX6_regions_38 : decode cX6_regions 38 = .ok (.iload_n 3, 1) := by decide +kernel
theorem dX6_regions_39 : decode cX6_regions 39 = .ok (.aload_n 0, 1) := by decide +kernel
theorem dX6_regions_40 : decode cX6_regions 40 = .ok (.invokevirtual 205, 3) := by decide +kernel
theorem dX6_regions_43 : decode cX6_regions 43 = .ok (.if_icmp .ge 52, 3) := by decide +kernel
theorem dX6_regions_46 : decode cX6_regions 46 = .ok (.aload_n 0, 1) := by decide +kernel
theorem dX6_regions_47 : decode cX6_regions 47 = .ok (.iload_n 3, 1) := by decide +kernel
theorem dX6_regions_48 : decode cX6_regions 48 = .ok (.invokevirtual 208, 3) := by decide +kernel
theorem dX6_regions_51 : decode cX6_regions 51 = .ok (.ifCond .eq 38, 3) := by decide +kernel
theorem dX6_regions_54 : decode cX6_regions 54 = .ok (.aload_n 0, 1) := by decide +kernel
theorem dX6_regions_55 : decode cX6_regions 55 = .ok (.getfield 40, 3) := by decide +kernel
theorem dX6_regions_58 : decode cX6_regions 58 = .ok (.iload_n 3, 1) := by decide +kernel
theorem dX6_regions_59 : decode cX6_regions 59 = .ok (.baload, 1) := by decide +kernel
theorem dX6_regions_60 : decode cX6_regions 60 = .ok (.ifCond .ne 29, 3) := by decide +kernel
theorem dX6_regions_63 : decode cX6_regions 63 = .ok (.aload_n 0, 1) := by decide +kernel
theorem dX6_regions_64 : decode cX6_regions 64 = .ok (.getfield 17, 3) := by decide +kernel
theorem dX6_regions_67 : decode cX6_regions 67 = .ok (.bipush 74, 2) := by decide +kernel
theorem dX6_regions_69 : decode cX6_regions 69 = .ok (.iload_n 3, 1) := by decide +kernel
theorem dX6_regions_70 : decode cX6_regions 70 = .ok (.iadd, 1) := by decide +kernel
theorem dX6_regions_71 : decode cX6_regions 71 = .ok (.iaload, 1) := by decide +kernel
theorem dX6_regions_72 : decode cX6_regions 72 = .ok (.iload_n 1, 1) := by decide +kernel
theorem dX6_regions_73 : decode cX6_regions 73 = .ok (.if_icmp .eq 6, 3) := by decide +kernel
theorem dX6_regions_76 : decode cX6_regions 76 = .ok (.goto 13, 3) := by decide +kernel
theorem dX6_regions_79 : decode cX6_regions 79 = .ok (.aload_n 0, 1) := by decide +kernel
theorem dX6_regions_80 : decode cX6_regions 80 = .ok (.iload_n 3, 1) := by decide +kernel
theorem dX6_regions_81 : decode cX6_regions 81 = .ok (.invokevirtual 273, 3) := by decide +kernel
theorem dX6_regions_84 : decode cX6_regions 84 = .ok (.istore 4, 2) := by decide +kernel
theorem dX6_regions_86 : decode cX6_regions 86 = .ok (.iinc 2 1, 3) := by decide +kernel
theorem dX6_regions_89 : decode cX6_regions 89 = .ok (.iinc 3 1, 3) := by decide +kernel
theorem dX6_regions_92 : decode cX6_regions 92 = .ok (.goto (-54), 3) := by decide +kernel
theorem dX6_regions_95 : decode cX6_regions 95 = .ok (.iload_n 2, 1) := by decide +kernel
theorem dX6_regions_96 : decode cX6_regions 96 = .ok (.ireturn, 1) := by decide +kernel
theorem dX6_bleeds_0 : decode cX6_bleeds 0 = .ok (.aload_n 0, 1) := by decide +kernel
theorem dX6_bleeds_1 : decode cX6_bleeds 1 = .ok (.iconst 0, 1) := by decide +kernel
theorem dX6_bleeds_2 : decode cX6_bleeds 2 = .ok (.putfield 51, 3) := by decide +kernel
theorem dX6_bleeds_5 : decode cX6_bleeds 5 = .ok (.aload_n 0, 1) := by decide +kernel
theorem dX6_bleeds_6 : decode cX6_bleeds 6 = .ok (.iload_n 1, 1) := by decide +kernel
theorem dX6_bleeds_7 : decode cX6_bleeds 7 = .ok (.iload_n 2, 1) := by decide +kernel
theorem dX6_bleeds_8 : decode cX6_bleeds 8 = .ok (.invokevirtual 258, 3) := by decide +kernel
theorem dX6_bleeds_11 : decode cX6_bleeds 11 = .ok (.ifCond .eq 7, 3) := by decide +kernel
theorem dX6_bleeds_14 : decode cX6_bleeds 14 = .ok (.iconst 0, 1) := by decide +kernel
theorem dX6_bleeds_15 : decode cX6_bleeds 15 = .ok (.goto 13, 3) := by decide +kernel
theorem dX6_bleeds_18 : decode cX6_bleeds 18 = .ok (.aload_n 0, 1) := by decide +kernel
theorem dX6_bleeds_19 : decode cX6_bleeds 19 = .ok (.aload_n 0, 1) := by decide +kernel
theorem dX6_bleeds_20 : decode cX6_bleeds 20 = .ok (.iload_n 1, 1) := by decide +kernel
theorem dX6_bleeds_21 : decode cX6_bleeds 21 = .ok (.iload_n 2, 1) := by decide +kernel
theorem dX6_bleeds_22 : decode cX6_bleeds 22 = .ok (.invokevirtual 261, 3) := by decide +kernel
theorem dX6_bleeds_25 : decode cX6_bleeds 25 = .ok (.invokevirtual 231, 3) := by decide +kernel
theorem dX6_bleeds_28 : decode cX6_bleeds 28 = .ok (.ireturn, 1) := by decide +kernel
theorem dX6_driesIn_0 : decode cX6_driesIn 0 = .ok (.aload_n 0, 1) := by decide +kernel
theorem dX6_driesIn_1 : decode cX6_driesIn 1 = .ok (.iconst 0, 1) := by decide +kernel
theorem dX6_driesIn_2 : decode cX6_driesIn 2 = .ok (.putfield 51, 3) := by decide +kernel
theorem dX6_driesIn_5 : decode cX6_driesIn 5 = .ok (.iconst 0, 1) := by decide +kernel
theorem dX6_driesIn_6 : decode cX6_driesIn 6 = .ok (.istore_n 1, 1) := by decide +kernel
theorem dX6_driesIn_7 : decode cX6_driesIn 7 = .ok (.aload_n 0, 1) := by decide +kernel
theorem dX6_driesIn_8 : decode cX6_driesIn 8 = .ok (.getfield 17, 3) := by decide +kernel
theorem dX6_driesIn_11 : decode cX6_driesIn 11 = .ok (.aload_n 0, 1) := by decide +kernel
theorem dX6_driesIn_12 : decode cX6_driesIn 12 = .ok (.getfield 23, 3) := by decide +kernel
theorem dX6_driesIn_15 : decode cX6_driesIn 15 = .ok (.invokestatic 185, 3) := by decide +kernel
theorem dX6_driesIn_18 : decode cX6_driesIn 18 = .ok (.aload_n 0, 1) := by decide +kernel
theorem dX6_driesIn_19 : decode cX6_driesIn 19 = .ok (.invokevirtual 246, 3) := by decide +kernel
theorem dX6_driesIn_22 : decode cX6_driesIn 22 = .ok (.ifCond .le 14, 3) := by decide +kernel
theorem dX6_driesIn_25 : decode cX6_driesIn 25 = .ok (.aload_n 0, 1) := by decide +kernel
theorem dX6_driesIn_26 : decode cX6_driesIn 26 = .ok (.invokevirtual 276, 3) := by decide +kernel
theorem dX6_driesIn_29 : decode cX6_driesIn 29 = .ok (.istore_n 2, 1) := by decide +kernel
theorem dX6_driesIn_30 : decode cX6_driesIn 30 = .ok (.iinc 1 1, 3) := by decide +kernel
theorem dX6_driesIn_33 : decode cX6_driesIn 33 = .ok (.goto (-15), 3) := by decide +kernel
theorem dX6_driesIn_36 : decode cX6_driesIn 36 = .ok (.aload_n 0, 1) := by decide +kernel
theorem dX6_driesIn_37 : decode cX6_driesIn 37 = .ok (.getfield 23, 3) := by decide +kernel
theorem dX6_driesIn_40 : decode cX6_driesIn 40 = .ok (.aload_n 0, 1) := by decide +kernel
theorem dX6_driesIn_41 : decode cX6_driesIn 41 = .ok (.getfield 17, 3) := by decide +kernel
theorem dX6_driesIn_44 : decode cX6_driesIn 44 = .ok (.invokestatic 185, 3) := by decide +kernel
theorem dX6_driesIn_47 : decode cX6_driesIn 47 = .ok (.iload_n 1, 1) := by decide +kernel
theorem dX6_driesIn_48 : decode cX6_driesIn 48 = .ok (.ireturn, 1) := by decide +kernel
theorem dX6_foretold_0 : decode cX6_foretold 0 = .ok (.aload_n 0, 1) := by decide +kernel
theorem dX6_foretold_1 : decode cX6_foretold 1 = .ok (.iconst 0, 1) := by decide +kernel
theorem dX6_foretold_2 : decode cX6_foretold 2 = .ok (.putfield 51, 3) := by decide +kernel
theorem dX6_foretold_5 : decode cX6_foretold 5 = .ok (.aload_n 0, 1) := by decide +kernel
theorem dX6_foretold_6 : decode cX6_foretold 6 = .ok (.iload_n 1, 1) := by decide +kernel
theorem dX6_foretold_7 : decode cX6_foretold 7 = .ok (.iconst 1, 1) := by decide +kernel
theorem dX6_foretold_8 : decode cX6_foretold 8 = .ok (.bipush 40, 2) := by decide +kernel
theorem dX6_foretold_10 : decode cX6_foretold 10 = .ok (.invokestatic 54, 3) := by decide +kernel
theorem dX6_foretold_13 : decode cX6_foretold 13 = .ok (.ifCond .eq 12, 3) := by decide +kernel
theorem dX6_foretold_16 : decode cX6_foretold 16 = .ok (.iload_n 2, 1) := by decide +kernel
theorem dX6_foretold_17 : decode cX6_foretold 17 = .ok (.iconst 0, 1) := by decide +kernel
theorem dX6_foretold_18 : decode cX6_foretold 18 = .ok (.iconst 4, 1) := by decide +kernel
theorem dX6_foretold_19 : decode cX6_foretold 19 = .ok (.invokestatic 54, 3) := by decide +kernel
theorem dX6_foretold_22 : decode cX6_foretold 22 = .ok (.ifCond .ne 7, 3) := by decide +kernel
theorem dX6_foretold_25 : decode cX6_foretold 25 = .ok (.iconst 1, 1) := by decide +kernel
theorem dX6_foretold_26 : decode cX6_foretold 26 = .ok (.goto 4, 3) := by decide +kernel
theorem dX6_foretold_29 : decode cX6_foretold 29 = .ok (.iconst 0, 1) := by decide +kernel
theorem dX6_foretold_30 : decode cX6_foretold 30 = .ok (.iconst 1, 1) := by decide +kernel
theorem dX6_foretold_31 : decode cX6_foretold 31 = .ok (.invokevirtual 173, 3) := by decide +kernel
theorem dX6_foretold_34 : decode cX6_foretold 34 = .ok (.ifCond .eq 5, 3) := by decide +kernel
theorem dX6_foretold_37 : decode cX6_foretold 37 = .ok (.iconst 0, 1) := by decide +kernel
theorem dX6_foretold_38 : decode cX6_foretold 38 = .ok (.ireturn, 1) := by decide +kernel
theorem dX6_foretold_39 : decode cX6_foretold 39 = .ok (.aload_n 0, 1) := by decide +kernel
theorem dX6_foretold_40 : decode cX6_foretold 40 = .ok (.getfield 17, 3) := by decide +kernel
theorem dX6_foretold_43 : decode cX6_foretold 43 = .ok (.aload_n 0, 1) := by decide +kernel
theorem dX6_foretold_44 : decode cX6_foretold 44 = .ok (.getfield 23, 3) := by decide +kernel
theorem dX6_foretold_47 : decode cX6_foretold 47 = .ok (.invokestatic 185, 3) := by decide +kernel
theorem dX6_foretold_50 : decode cX6_foretold 50 = .ok (.iconst 0, 1) := by decide +kernel
theorem dX6_foretold_51 : decode cX6_foretold 51 = .ok (.istore_n 3, 1) := by decide +kernel
theorem dX6_foretold_52 : decode cX6_foretold 52 = .ok (.iconst 0, 1) := by decide +kernel
theorem dX6_foretold_53 : decode cX6_foretold 53 = .ok (.istore 4, 2) := by decide +kernel
theorem dX6_foretold_55 : decode cX6_foretold 55 = .ok (.iload 4, 2) := by decide +kernel
theorem dX6_foretold_57 : decode cX6_foretold 57 = .ok (.iload_n 1, 1) := by decide +kernel
theorem dX6_foretold_58 : decode cX6_foretold 58 = .ok (.if_icmp .ge 16, 3) := by decide +kernel
theorem dX6_foretold_61 : decode cX6_foretold 61 = .ok (.iload_n 3, 1) := by decide +kernel
theorem dX6_foretold_62 : decode cX6_foretold 62 = .ok (.aload_n 0, 1) := by decide +kernel
theorem dX6_foretold_63 : decode cX6_foretold 63 = .ok (.invokevirtual 276, 3) := by decide +kernel
theorem dX6_foretold_66 : decode cX6_foretold 66 = .ok (.iadd, 1) := by decide +kernel
theorem dX6_foretold_67 : decode cX6_foretold 67 = .ok (.istore_n 3, 1) := by decide +kernel
theorem dX6_foretold_68 : decode cX6_foretold 68 = .ok (.iinc 4 1, 3) := by decide +kernel
theorem dX6_foretold_71 : decode cX6_foretold 71 = .ok (.goto (-16), 3) := by decide +kernel
theorem dX6_foretold_74 : decode cX6_foretold 74 = .ok (.iload_n 2, 1) := by decide +kernel
theorem dX6_foretold_75 : decode cX6_foretold 75 = .ok (.ifCond .ne 10, 3) := by decide +kernel
theorem dX6_foretold_78 : decode cX6_foretold 78 = .ok (.aload_n 0, 1) := by decide +kernel
theorem dX6_foretold_79 : decode cX6_foretold 79 = .ok (.invokevirtual 249, 3) := by decide +kernel
theorem dX6_foretold_82 : decode cX6_foretold 82 = .ok (.goto 41, 3) := by decide +kernel
theorem dX6_foretold_85 : decode cX6_foretold 85 = .ok (.iload_n 2, 1) := by decide +kernel
theorem dX6_foretold_86 : decode cX6_foretold 86 = .ok (.iconst 1, 1) := by decide +kernel
theorem dX6_foretold_87 : decode cX6_foretold 87 = .ok (.if_icmp .ne 11, 3) := by decide +kernel
theorem dX6_foretold_90 : decode cX6_foretold 90 = .ok (.aload_n 0, 1) := by decide +kernel
theorem dX6_foretold_91 : decode cX6_foretold 91 = .ok (.iconst 0, 1) := by decide +kernel
theorem dX6_foretold_92 : decode cX6_foretold 92 = .ok (.invokevirtual 243, 3) := by decide +kernel
theorem dX6_foretold_95 : decode cX6_foretold 95 = .ok (.goto 28, 3) := by decide +kernel
theorem dX6_foretold_98 : decode cX6_foretold 98 = .ok (.iload_n 2, 1) := by decide +kernel
theorem dX6_foretold_99 : decode cX6_foretold 99 = .ok (.iconst 2, 1) := by decide +kernel
theorem dX6_foretold_100 : decode cX6_foretold 100 = .ok (.if_icmp .ne 10, 3) := by decide +kernel
theorem dX6_foretold_103 : decode cX6_foretold 103 = .ok (.aload_n 0, 1) := by decide +kernel
theorem dX6_foretold_104 : decode cX6_foretold 104 = .ok (.invokevirtual 267, 3) := by decide +kernel
theorem dX6_foretold_107 : decode cX6_foretold 107 = .ok (.goto 16, 3) := by decide +kernel
theorem dX6_foretold_110 : decode cX6_foretold 110 = .ok (.iload_n 2, 1) := by decide +kernel
theorem dX6_foretold_111 : decode cX6_foretold 111 = .ok (.iconst 3, 1) := by decide +kernel
theorem dX6_foretold_112 : decode cX6_foretold 112 = .ok (.if_icmp .ne 10, 3) := by decide +kernel
theorem dX6_foretold_115 : decode cX6_foretold 115 = .ok (.aload_n 0, 1) := by decide +kernel
theorem dX6_foretold_116 : decode cX6_foretold 116 = .ok (.invokevirtual 246, 3) := by decide +kernel
theorem dX6_foretold_119 : decode cX6_foretold 119 = .ok (.goto 4, 3) := by decide +kernel
theorem dX6_foretold_122 : decode cX6_foretold 122 = .ok (.iload_n 3, 1) := by decide +kernel
theorem dX6_foretold_123 : decode cX6_foretold 123 = .ok (.istore 4, 2) := by decide +kernel
theorem dX6_foretold_125 : decode cX6_foretold 125 = .ok (.aload_n 0, 1) := by decide +kernel
theorem dX6_foretold_126 : decode cX6_foretold 126 = .ok (.getfield 23, 3) := by decide +kernel
theorem dX6_foretold_129 : decode cX6_foretold 129 = .ok (.aload_n 0, 1) := by decide +kernel
theorem dX6_foretold_130 : decode cX6_foretold 130 = .ok (.getfield 17, 3) := by decide +kernel
theorem dX6_foretold_133 : decode cX6_foretold 133 = .ok (.invokestatic 185, 3) := by decide +kernel
theorem dX6_foretold_136 : decode cX6_foretold 136 = .ok (.iload 4, 2) := by decide +kernel
theorem dX6_foretold_138 : decode cX6_foretold 138 = .ok (.ireturn, 1) := by decide +kernel
theorem dX6_evens_0 : decode cX6_evens 0 = .ok (.aload_n 0, 1) := by decide +kernel
theorem dX6_evens_1 : decode cX6_evens 1 = .ok (.iconst 0, 1) := by decide +kernel
theorem dX6_evens_2 : decode cX6_evens 2 = .ok (.putfield 51, 3) := by decide +kernel
theorem dX6_evens_5 : decode cX6_evens 5 = .ok (.aload_n 0, 1) := by decide +kernel
theorem dX6_evens_6 : decode cX6_evens 6 = .ok (.iload_n 1, 1) := by decide +kernel
theorem dX6_evens_7 : decode cX6_evens 7 = .ok (.iconst 0, 1) := by decide +kernel
theorem dX6_evens_8 : decode cX6_evens 8 = .ok (.bipush 6, 2) := by decide +kernel
theorem dX6_evens_10 : decode cX6_evens 10 = .ok (.invokestatic 54, 3) := by decide +kernel
theorem dX6_evens_13 : decode cX6_evens 13 = .ok (.ifCond .ne 7, 3) := by decide +kernel
theorem dX6_evens_16 : decode cX6_evens 16 = .ok (.iconst 1, 1) := by decide +kernel
theorem dX6_evens_17 : decode cX6_evens 17 = .ok (.goto 4, 3) := by decide +kernel
theorem dX6_evens_20 : decode cX6_evens 20 = .ok (.iconst 0, 1) := by decide +kernel
theorem dX6_evens_21 : decode cX6_evens 21 = .ok (.iconst 1, 1) := by decide +kernel
theorem dX6_evens_22 : decode cX6_evens 22 = .ok (.invokevirtual 173, 3) := by decide +kernel
theorem dX6_evens_25 : decode cX6_evens 25 = .ok (.ifCond .eq 5, 3) := by decide +kernel
theorem dX6_evens_28 : decode cX6_evens 28 = .ok (.iconst 0, 1) := by decide +kernel
theorem dX6_evens_29 : decode cX6_evens 29 = .ok (.ireturn, 1) := by decide +kernel
theorem dX6_evens_30 : decode cX6_evens 30 = .ok (.aload_n 0, 1) := by decide +kernel
theorem dX6_evens_31 : decode cX6_evens 31 = .ok (.invokevirtual 249, 3) := by decide +kernel
theorem dX6_evens_34 : decode cX6_evens 34 = .ok (.istore_n 2, 1) := by decide +kernel
theorem dX6_evens_35 : decode cX6_evens 35 = .ok (.iload_n 2, 1) := by decide +kernel
theorem dX6_evens_36 : decode cX6_evens 36 = .ok (.invokestatic 58, 3) := by decide +kernel
theorem dX6_evens_39 : decode cX6_evens 39 = .ok (.istore_n 3, 1) := by decide +kernel
theorem dX6_evens_40 : decode cX6_evens 40 = .ok (.iconst (-1), 1) := by decide +kernel
theorem dX6_evens_41 : decode cX6_evens 41 = .ok (.istore 4, 2) := by decide +kernel
theorem dX6_evens_43 : decode cX6_evens 43 = .ok (.iconst 0, 1) := by decide +kernel
theorem dX6_evens_44 : decode cX6_evens 44 = .ok (.istore 5, 2) := by decide +kernel
theorem dX6_evens_46 : decode cX6_evens 46 = .ok (.iload 5, 2) := by decide +kernel
theorem dX6_evens_48 : decode cX6_evens 48 = .ok (.aload_n 0, 1) := by decide +kernel
theorem dX6_evens_49 : decode cX6_evens 49 = .ok (.invokevirtual 205, 3) := by decide +kernel
theorem dX6_evens_52 : decode cX6_evens 52 = .ok (.if_icmp .ge 88, 3) := by decide +kernel
theorem dX6_evens_55 : decode cX6_evens 55 = .ok (.aload_n 0, 1) := by decide +kernel
theorem dX6_evens_56 : decode cX6_evens 56 = .ok (.iload 5, 2) := by decide +kernel
theorem dX6_evens_58 : decode cX6_evens 58 = .ok (.invokevirtual 208, 3) := by decide +kernel
theorem dX6_evens_61 : decode cX6_evens 61 = .ok (.ifCond .ne 6, 3) := by decide +kernel
theorem dX6_evens_64 : decode cX6_evens 64 = .ok (.goto 70, 3) := by decide +kernel
theorem dX6_evens_67 : decode cX6_evens 67 = .ok (.aload_n 0, 1) := by decide +kernel
theorem dX6_evens_68 : decode cX6_evens 68 = .ok (.iload 5, 2) := by decide +kernel
theorem dX6_evens_70 : decode cX6_evens 70 = .ok (.invokevirtual 192, 3) := by decide +kernel
theorem dX6_evens_73 : decode cX6_evens 73 = .ok (.aload_n 0, 1) := by decide +kernel
theorem dX6_evens_74 : decode cX6_evens 74 = .ok (.getfield 17, 3) := by decide +kernel
theorem dX6_evens_77 : decode cX6_evens 77 = .ok (.iconst 0, 1) := by decide +kernel
theorem dX6_evens_78 : decode cX6_evens 78 = .ok (.iaload, 1) := by decide +kernel
theorem dX6_evens_79 : decode cX6_evens 79 = .ok (.iconst 2, 1) := by decide +kernel
theorem dX6_evens_80 : decode cX6_evens 80 = .ok (.idiv, 1) := by decide +kernel
theorem dX6_evens_81 : decode cX6_evens 81 = .ok (.isub, 1) := by decide +kernel
theorem dX6_evens_82 : decode cX6_evens 82 = .ok (.invokestatic 214, 3) := by decide +kernel
theorem dX6_evens_85 : decode cX6_evens 85 = .ok (.aload_n 0, 1) := by decide +kernel
theorem dX6_evens_86 : decode cX6_evens 86 = .ok (.iload_n 1, 1) := by decide +kernel
theorem dX6_evens_87 : decode cX6_evens 87 = .ok (.invokevirtual 211, 3) := by decide +kernel
theorem dX6_evens_90 : decode cX6_evens 90 = .ok (.aload_n 0, 1) := by decide +kernel
theorem dX6_evens_91 : decode cX6_evens 91 = .ok (.aload_n 0, 1) := by decide +kernel
theorem dX6_evens_92 : decode cX6_evens 92 = .ok (.getfield 17, 3) := by decide +kernel
theorem dX6_evens_95 : decode cX6_evens 95 = .ok (.bipush 74, 2) := by decide +kernel
theorem dX6_evens_97 : decode cX6_evens 97 = .ok (.iload 5, 2) := by decide +kernel
theorem dX6_evens_99 : decode cX6_evens 99 = .ok (.iadd, 1) := by decide +kernel
theorem dX6_evens_100 : decode cX6_evens 100 = .ok (.iaload, 1) := by decide +kernel
theorem dX6_evens_101 : decode cX6_evens 101 = .ok (.invokevirtual 211, 3) := by decide +kernel
theorem dX6_evens_104 : decode cX6_evens 104 = .ok (.isub, 1) := by decide +kernel
theorem dX6_evens_105 : decode cX6_evens 105 = .ok (.imul, 1) := by decide +kernel
theorem dX6_evens_106 : decode cX6_evens 106 = .ok (.istore 6, 2) := by decide +kernel
theorem dX6_evens_108 : decode cX6_evens 108 = .ok (.iload_n 2, 1) := by decide +kernel
theorem dX6_evens_109 : decode cX6_evens 109 = .ok (.iload 6, 2) := by decide +kernel
theorem dX6_evens_111 : decode cX6_evens 111 = .ok (.iadd, 1) := by decide +kernel
theorem dX6_evens_112 : decode cX6_evens 112 = .ok (.invokestatic 58, 3) := by decide +kernel
theorem dX6_evens_115 : decode cX6_evens 115 = .ok (.iload_n 3, 1) := by decide +kernel
theorem dX6_evens_116 : decode cX6_evens 116 = .ok (.if_icmp .lt 6, 3) := by decide +kernel
theorem dX6_evens_119 : decode cX6_evens 119 = .ok (.goto 15, 3) := by decide +kernel
theorem dX6_evens_122 : decode cX6_evens 122 = .ok (.iload_n 2, 1) := by decide +kernel
theorem dX6_evens_123 : decode cX6_evens 123 = .ok (.iload 6, 2) := by decide +kernel
theorem dX6_evens_125 : decode cX6_evens 125 = .ok (.iadd, 1) := by decide +kernel
theorem dX6_evens_126 : decode cX6_evens 126 = .ok (.invokestatic 58, 3) := by decide +kernel
theorem dX6_evens_129 : decode cX6_evens 129 = .ok (.istore_n 3, 1) := by decide +kernel
theorem dX6_evens_130 : decode cX6_evens 130 = .ok (.iload 5, 2) := by decide +kernel
theorem dX6_evens_132 : decode cX6_evens 132 = .ok (.istore 4, 2) := by decide +kernel
theorem dX6_evens_134 : decode cX6_evens 134 = .ok (.iinc 5 1, 3) := by decide +kernel
theorem dX6_evens_137 : decode cX6_evens 137 = .ok (.goto (-91), 3) := by decide +kernel
theorem dX6_evens_140 : decode cX6_evens 140 = .ok (.iload 4, 2) := by decide +kernel
theorem dX6_evens_142 : decode cX6_evens 142 = .ok (.ireturn, 1) := by decide +kernel
theorem dX6_noPattern_0 : decode cX6_noPattern 0 = .ok (.aload_n 0, 1) := by decide +kernel
theorem dX6_noPattern_1 : decode cX6_noPattern 1 = .ok (.iload_n 1, 1) := by decide +kernel
theorem dX6_noPattern_2 : decode cX6_noPattern 2 = .ok (.iconst 0, 1) := by decide +kernel
theorem dX6_noPattern_3 : decode cX6_noPattern 3 = .ok (.aload_n 0, 1) := by decide +kernel
theorem dX6_noPattern_4 : decode cX6_noPattern 4 = .ok (.getfield 17, 3) := by decide +kernel
theorem dX6_noPattern_7 : decode cX6_noPattern 7 = .ok (.iconst 5, 1) := by decide +kernel
theorem dX6_noPattern_8 : decode cX6_noPattern 8 = .ok (.iaload, 1) := by decide +kernel
theorem dX6_noPattern_9 : decode cX6_noPattern 9 = .ok (.iconst 1, 1) := by decide +kernel
theorem dX6_noPattern_10 : decode cX6_noPattern 10 = .ok (.isub, 1) := by decide +kernel
theorem dX6_noPattern_11 : decode cX6_noPattern 11 = .ok (.invokestatic 54, 3) := by decide +kernel
theorem dX6_noPattern_14 : decode cX6_noPattern 14 = .ok (.ifCond .ne 7, 3) := by decide +kernel
theorem dX6_noPattern_17 : decode cX6_noPattern 17 = .ok (.iconst 1, 1) := by decide +kernel
theorem dX6_noPattern_18 : decode cX6_noPattern 18 = .ok (.goto 4, 3) := by decide +kernel
theorem dX6_noPattern_21 : decode cX6_noPattern 21 = .ok (.iconst 0, 1) := by decide +kernel
theorem dX6_noPattern_22 : decode cX6_noPattern 22 = .ok (.iconst 1, 1) := by decide +kernel
theorem dX6_noPattern_23 : decode cX6_noPattern 23 = .ok (.invokevirtual 173, 3) := by decide +kernel
theorem dX6_noPattern_26 : decode cX6_noPattern 26 = .ok (.ireturn, 1) := by decide +kernel
theorem dX6_digitAt_0 : decode cX6_digitAt 0 = .ok (.aload_n 0, 1) := by decide +kernel
theorem dX6_digitAt_1 : decode cX6_digitAt 1 = .ok (.getfield 17, 3) := by decide +kernel
theorem dX6_digitAt_4 : decode cX6_digitAt 4 = .ok (.sipush 614, 3) := by decide +kernel
theorem dX6_digitAt_7 : decode cX6_digitAt 7 = .ok (.bipush 44, 2) := by decide +kernel
theorem dX6_digitAt_9 : decode cX6_digitAt 9 = .ok (.iload_n 1, 1) := by decide +kernel
theorem dX6_digitAt_10 : decode cX6_digitAt 10 = .ok (.imul, 1) := by decide +kernel
theorem dX6_digitAt_11 : decode cX6_digitAt 11 = .ok (.iadd, 1) := by decide +kernel
theorem dX6_digitAt_12 : decode cX6_digitAt 12 = .ok (.iconst 2, 1) := by decide +kernel
theorem dX6_digitAt_13 : decode cX6_digitAt 13 = .ok (.iadd, 1) := by decide +kernel
theorem dX6_digitAt_14 : decode cX6_digitAt 14 = .ok (.bipush 7, 2) := by decide +kernel
theorem dX6_digitAt_16 : decode cX6_digitAt 16 = .ok (.iload_n 2, 1) := by decide +kernel
theorem dX6_digitAt_17 : decode cX6_digitAt 17 = .ok (.imul, 1) := by decide +kernel
theorem dX6_digitAt_18 : decode cX6_digitAt 18 = .ok (.iadd, 1) := by decide +kernel
theorem dX6_digitAt_19 : decode cX6_digitAt 19 = .ok (.iload_n 3, 1) := by decide +kernel
theorem dX6_digitAt_20 : decode cX6_digitAt 20 = .ok (.iadd, 1) := by decide +kernel
theorem dX6_digitAt_21 : decode cX6_digitAt 21 = .ok (.iaload, 1) := by decide +kernel
theorem dX6_digitAt_22 : decode cX6_digitAt 22 = .ok (.ireturn, 1) := by decide +kernel
theorem dX6_ofPattern_0 : decode cX6_ofPattern 0 = .ok (.aload_n 0, 1) := by decide +kernel
theorem dX6_ofPattern_1 : decode cX6_ofPattern 1 = .ok (.getfield 17, 3) := by decide +kernel
theorem dX6_ofPattern_4 : decode cX6_ofPattern 4 = .ok (.sipush 614, 3) := by decide +kernel
theorem dX6_ofPattern_7 : decode cX6_ofPattern 7 = .ok (.bipush 44, 2) := by decide +kernel
theorem dX6_ofPattern_9 : decode cX6_ofPattern 9 = .ok (.iload_n 1, 1) := by decide +kernel
theorem dX6_ofPattern_10 : decode cX6_ofPattern 10 = .ok (.imul, 1) := by decide +kernel
theorem dX6_ofPattern_11 : decode cX6_ofPattern 11 = .ok (.iadd, 1) := by decide +kernel
theorem dX6_ofPattern_12 : decode cX6_ofPattern 12 = .ok (.iload_n 2, 1) := by decide +kernel
theorem dX6_ofPattern_13 : decode cX6_ofPattern 13 = .ok (.iadd, 1) := by decide +kernel
theorem dX6_ofPattern_14 : decode cX6_ofPattern 14 = .ok (.iaload, 1) := by decide +kernel
theorem dX6_ofPattern_15 : decode cX6_ofPattern 15 = .ok (.ireturn, 1) := by decide +kernel
theorem dX6_painted_0 : decode cX6_painted 0 = .ok (.iconst 0, 1) := by decide +kernel
theorem dX6_painted_1 : decode cX6_painted 1 = .ok (.istore_n 2, 1) := by decide +kernel
theorem dX6_painted_2 : decode cX6_painted 2 = .ok (.iconst 0, 1) := by decide +kernel
theorem dX6_painted_3 : decode cX6_painted 3 = .ok (.istore_n 3, 1) := by decide +kernel
theorem dX6_painted_4 : decode cX6_painted 4 = .ok (.iload_n 3, 1) := by decide +kernel
theorem dX6_painted_5 : decode cX6_painted 5 = .ok (.aload_n 0, 1) := by decide +kernel
theorem dX6_painted_6 : decode cX6_painted 6 = .ok (.iload_n 1, 1) := by decide +kernel
theorem dX6_painted_7 : decode cX6_painted 7 = .ok (.iconst 1, 1) := by decide +kernel
theorem dX6_painted_8 : decode cX6_painted 8 = .ok (.invokevirtual 279, 3) := by decide +kernel
theorem dX6_painted_11 : decode cX6_painted 11 = .ok (.if_icmp .ge 48, 3) := by decide +kernel
theorem dX6_painted_14 : decode cX6_painted 14 = .ok (.iconst 0, 1) := by decide +kernel
theorem dX6_painted_15 : decode cX6_painted 15 = .ok (.istore 4, 2) := by decide +kernel
theorem dX6_painted_17 : decode cX6_painted 17 = .ok (.iload 4, 2) := by decide +kernel
theorem dX6_painted_19 : decode cX6_painted 19 = .ok (.aload_n 0, 1) := by decide +kernel
theorem dX6_painted_20 : decode cX6_painted 20 = .ok (.iload_n 1, 1) := by decide +kernel
theorem dX6_painted_21 : decode cX6_painted 21 = .ok (.iconst 0, 1) := by decide +kernel
theorem dX6_painted_22 : decode cX6_painted 22 = .ok (.invokevirtual 279, 3) := by decide +kernel
theorem dX6_painted_25 : decode cX6_painted 25 = .ok (.if_icmp .ge 28, 3) := by decide +kernel
theorem dX6_painted_28 : decode cX6_painted 28 = .ok (.iload_n 2, 1) := by decide +kernel
theorem dX6_painted_29 : decode cX6_painted 29 = .ok (.aload_n 0, 1) := by decide +kernel
theorem dX6_painted_30 : decode cX6_painted 30 = .ok (.iload_n 1, 1) := by decide +kernel
theorem dX6_painted_31 : decode cX6_painted 31 = .ok (.iload_n 3, 1) := by decide +kernel
theorem dX6_painted_32 : decode cX6_painted 32 = .ok (.iload 4, 2) := by decide +kernel
theorem dX6_painted_34 : decode cX6_painted 34 = .ok (.invokevirtual 282, 3) := by decide +kernel
theorem dX6_painted_37 : decode cX6_painted 37 = .ok (.ifCond .le 7, 3) := by decide +kernel
theorem dX6_painted_40 : decode cX6_painted 40 = .ok (.iconst 1, 1) := by decide +kernel
theorem dX6_painted_41 : decode cX6_painted 41 = .ok (.goto 4, 3) := by decide +kernel
theorem dX6_painted_44 : decode cX6_painted 44 = .ok (.iconst 0, 1) := by decide +kernel
theorem dX6_painted_45 : decode cX6_painted 45 = .ok (.iadd, 1) := by decide +kernel
theorem dX6_painted_46 : decode cX6_painted 46 = .ok (.istore_n 2, 1) := by decide +kernel
theorem dX6_painted_47 : decode cX6_painted 47 = .ok (.iinc 4 1, 3) := by decide +kernel
theorem dX6_painted_50 : decode cX6_painted 50 = .ok (.goto (-33), 3) := by decide +kernel
theorem dX6_painted_53 : decode cX6_painted 53 = .ok (.iinc 3 1, 3) := by decide +kernel
theorem dX6_painted_56 : decode cX6_painted 56 = .ok (.goto (-52), 3) := by decide +kernel
theorem dX6_painted_59 : decode cX6_painted 59 = .ok (.iload_n 2, 1) := by decide +kernel
theorem dX6_painted_60 : decode cX6_painted 60 = .ok (.ireturn, 1) := by decide +kernel
theorem dX6_pattern_0 : decode cX6_pattern 0 = .ok (.aload_n 0, 1) := by decide +kernel
theorem dX6_pattern_1 : decode cX6_pattern 1 = .ok (.iconst 0, 1) := by decide +kernel
theorem dX6_pattern_2 : decode cX6_pattern 2 = .ok (.putfield 51, 3) := by decide +kernel
theorem dX6_pattern_5 : decode cX6_pattern 5 = .ok (.aload_n 0, 1) := by decide +kernel
theorem dX6_pattern_6 : decode cX6_pattern 6 = .ok (.iload_n 1, 1) := by decide +kernel
theorem dX6_pattern_7 : decode cX6_pattern 7 = .ok (.invokevirtual 286, 3) := by decide +kernel
theorem dX6_pattern_10 : decode cX6_pattern 10 = .ok (.ifCond .ne 25, 3) := by decide +kernel
theorem dX6_pattern_13 : decode cX6_pattern 13 = .ok (.aload_n 0, 1) := by decide +kernel
theorem dX6_pattern_14 : decode cX6_pattern 14 = .ok (.iload_n 2, 1) := by decide +kernel
theorem dX6_pattern_15 : decode cX6_pattern 15 = .ok (.iconst 0, 1) := by decide +kernel
theorem dX6_pattern_16 : decode cX6_pattern 16 = .ok (.iconst 2, 1) := by decide +kernel
theorem dX6_pattern_17 : decode cX6_pattern 17 = .ok (.invokestatic 54, 3) := by decide +kernel
theorem dX6_pattern_20 : decode cX6_pattern 20 = .ok (.ifCond .ne 7, 3) := by decide +kernel
theorem dX6_pattern_23 : decode cX6_pattern 23 = .ok (.iconst 1, 1) := by decide +kernel
theorem dX6_pattern_24 : decode cX6_pattern 24 = .ok (.goto 4, 3) := by decide +kernel
theorem dX6_pattern_27 : decode cX6_pattern 27 = .ok (.iconst 0, 1) := by decide +kernel
theorem dX6_pattern_28 : decode cX6_pattern 28 = .ok (.iconst 2, 1) := by decide +kernel
theorem dX6_pattern_29 : decode cX6_pattern 29 = .ok (.invokevirtual 173, 3) := by decide +kernel
theorem dX6_pattern_32 : decode cX6_pattern 32 = .ok (.ifCond .eq 7, 3) := by decide +kernel
theorem dX6_pattern_35 : decode cX6_pattern 35 = .ok (.iconst 0, 1) := by decide +kernel
theorem dX6_pattern_36 : decode cX6_pattern 36 = .ok (.goto 22, 3) := by decide +kernel
theorem dX6_pattern_39 : decode cX6_pattern 39 = .ok (.iload_n 2, 1) := by decide +kernel
theorem dX6_pattern_40 : decode cX6_pattern 40 = .ok (.iconst 2, 1) := by decide +kernel
theorem dX6_pattern_41 : decode cX6_pattern 41 = .ok (.if_icmp .ne 11, 3) := by decide +kernel
theorem dX6_pattern_44 : decode cX6_pattern 44 = .ok (.aload_n 0, 1) := by decide +kernel
theorem dX6_pattern_45 : decode cX6_pattern 45 = .ok (.iload_n 1, 1) := by decide +kernel
theorem dX6_pattern_46 : decode cX6_pattern 46 = .ok (.invokevirtual 289, 3) := by decide +kernel
theorem dX6_pattern_49 : decode cX6_pattern 49 = .ok (.goto 9, 3) := by decide +kernel
theorem dX6_pattern_52 : decode cX6_pattern 52 = .ok (.aload_n 0, 1) := by decide +kernel
theorem dX6_pattern_53 : decode cX6_pattern 53 = .ok (.iload_n 1, 1) := by decide +kernel
theorem dX6_pattern_54 : decode cX6_pattern 54 = .ok (.iload_n 2, 1) := by decide +kernel
theorem dX6_pattern_55 : decode cX6_pattern 55 = .ok (.invokevirtual 279, 3) := by decide +kernel
theorem dX6_pattern_58 : decode cX6_pattern 58 = .ok (.ireturn, 1) := by decide +kernel
theorem dX6_covered_0 : decode cX6_covered 0 = .ok (.aload_n 0, 1) := by decide +kernel
theorem dX6_covered_1 : decode cX6_covered 1 = .ok (.iconst 0, 1) := by decide +kernel
theorem dX6_covered_2 : decode cX6_covered 2 = .ok (.putfield 51, 3) := by decide +kernel
theorem dX6_covered_5 : decode cX6_covered 5 = .ok (.aload_n 0, 1) := by decide +kernel
theorem dX6_covered_6 : decode cX6_covered 6 = .ok (.invokevirtual 189, 3) := by decide +kernel
theorem dX6_covered_9 : decode cX6_covered 9 = .ok (.aload_n 0, 1) := by decide +kernel
theorem dX6_covered_10 : decode cX6_covered 10 = .ok (.iconst 0, 1) := by decide +kernel
theorem dX6_covered_11 : decode cX6_covered 11 = .ok (.invokevirtual 243, 3) := by decide +kernel
theorem dX6_covered_14 : decode cX6_covered 14 = .ok (.isub, 1) := by decide +kernel
theorem dX6_covered_15 : decode cX6_covered 15 = .ok (.i2f, 1) := by decide +kernel
theorem dX6_covered_16 : decode cX6_covered 16 = .ok (.aload_n 0, 1) := by decide +kernel
theorem dX6_covered_17 : decode cX6_covered 17 = .ok (.invokevirtual 189, 3) := by decide +kernel
theorem dX6_covered_20 : decode cX6_covered 20 = .ok (.i2f, 1) := by decide +kernel
theorem dX6_covered_21 : decode cX6_covered 21 = .ok (.fdiv, 1) := by decide +kernel
theorem dX6_covered_22 : decode cX6_covered 22 = .ok (.freturn, 1) := by decide +kernel
theorem dX6_remember_0 : decode cX6_remember 0 = .ok (.aload_n 0, 1) := by decide +kernel
theorem dX6_remember_1 : decode cX6_remember 1 = .ok (.getfield 292, 3) := by decide +kernel
theorem dX6_remember_4 : decode cX6_remember 4 = .ok (.bipush 8, 2) := by decide +kernel
theorem dX6_remember_6 : decode cX6_remember 6 = .ok (.if_icmp .ne 44, 3) := by decide +kernel
theorem dX6_remember_9 : decode cX6_remember 9 = .ok (.iconst 1, 1) := by decide +kernel
theorem dX6_remember_10 : decode cX6_remember 10 = .ok (.istore_n 1, 1) := by decide +kernel
theorem dX6_remember_11 : decode cX6_remember 11 = .ok (.iload_n 1, 1) := by decide +kernel
theorem dX6_remember_12 : decode cX6_remember 12 = .ok (.bipush 8, 2) := by decide +kernel
theorem dX6_remember_14 : decode cX6_remember 14 = .ok (.if_icmp .ge 26, 3) := by decide +kernel
theorem dX6_remember_17 : decode cX6_remember 17 = .ok (.aload_n 0, 1) := by decide +kernel
theorem dX6_remember_18 : decode cX6_remember 18 = .ok (.getfield 28, 3) := by decide +kernel
theorem dX6_remember_21 : decode cX6_remember 21 = .ok (.iload_n 1, 1) := by decide +kernel
theorem dX6_remember_22 : decode cX6_remember 22 = .ok (.aaload, 1) := by decide +kernel
theorem dX6_remember_23 : decode cX6_remember 23 = .ok (.aload_n 0, 1) := by decide +kernel
theorem dX6_remember_24 : decode cX6_remember 24 = .ok (.getfield 28, 3) := by decide +kernel
theorem dX6_remember_27 : decode cX6_remember 27 = .ok (.iload_n 1, 1) := by decide +kernel
theorem dX6_remember_28 : decode cX6_remember 28 = .ok (.iconst 1, 1) := by decide +kernel
theorem dX6_remember_29 : decode cX6_remember 29 = .ok (.isub, 1) := by decide +kernel
theorem dX6_remember_30 : decode cX6_remember 30 = .ok (.aaload, 1) := by decide +kernel
theorem dX6_remember_31 : decode cX6_remember 31 = .ok (.invokestatic 185, 3) := by decide +kernel
theorem dX6_remember_34 : decode cX6_remember 34 = .ok (.iinc 1 1, 3) := by decide +kernel
theorem dX6_remember_37 : decode cX6_remember 37 = .ok (.goto (-26), 3) := by decide +kernel
theorem dX6_remember_40 : decode cX6_remember 40 = .ok (.aload_n 0, 1) := by decide +kernel
theorem dX6_remember_41 : decode cX6_remember 41 = .ok (.dup, 1) := by decide +kernel
theorem dX6_remember_42 : decode cX6_remember 42 = .ok (.getfield 292, 3) := by decide +kernel
theorem dX6_remember_45 : decode cX6_remember 45 = .ok (.iconst 1, 1) := by decide +kernel
theorem dX6_remember_46 : decode cX6_remember 46 = .ok (.isub, 1) := by decide +kernel
theorem dX6_remember_47 : decode cX6_remember 47 = .ok (.putfield 292, 3) := by decide +kernel
theorem dX6_remember_50 : decode cX6_remember 50 = .ok (.aload_n 0, 1) := by decide +kernel
theorem dX6_remember_51 : decode cX6_remember 51 = .ok (.getfield 17, 3) := by decide +kernel
theorem dX6_remember_54 : decode cX6_remember 54 = .ok (.aload_n 0, 1) := by decide +kernel
theorem dX6_remember_55 : decode cX6_remember 55 = .ok (.getfield 28, 3) := by decide +kernel
theorem dX6_remember_58 : decode cX6_remember 58 = .ok (.aload_n 0, 1) := by decide +kernel
theorem dX6_remember_59 : decode cX6_remember 59 = .ok (.getfield 292, 3) := by decide +kernel
theorem dX6_remember_62 : decode cX6_remember 62 = .ok (.aaload, 1) := by decide +kernel
theorem dX6_remember_63 : decode cX6_remember 63 = .ok (.invokestatic 185, 3) := by decide +kernel
theorem dX6_remember_66 : decode cX6_remember 66 = .ok (.aload_n 0, 1) := by decide +kernel
theorem dX6_remember_67 : decode cX6_remember 67 = .ok (.dup, 1) := by decide +kernel
theorem dX6_remember_68 : decode cX6_remember 68 = .ok (.getfield 292, 3) := by decide +kernel
theorem dX6_remember_71 : decode cX6_remember 71 = .ok (.iconst 1, 1) := by decide +kernel
theorem dX6_remember_72 : decode cX6_remember 72 = .ok (.iadd, 1) := by decide +kernel
theorem dX6_remember_73 : decode cX6_remember 73 = .ok (.putfield 292, 3) := by decide +kernel
theorem dX6_remember_76 : decode cX6_remember 76 = .ok (.return_, 1) := by decide +kernel
theorem dX6_pass_0 : decode cX6_pass 0 = .ok (.aload_n 0, 1) := by decide +kernel
theorem dX6_pass_1 : decode cX6_pass 1 = .ok (.iconst 0, 1) := by decide +kernel
theorem dX6_pass_2 : decode cX6_pass 2 = .ok (.putfield 51, 3) := by decide +kernel
theorem dX6_pass_5 : decode cX6_pass 5 = .ok (.aload_n 0, 1) := by decide +kernel
theorem dX6_pass_6 : decode cX6_pass 6 = .ok (.iload_n 1, 1) := by decide +kernel
theorem dX6_pass_7 : decode cX6_pass 7 = .ok (.iconst 1, 1) := by decide +kernel
theorem dX6_pass_8 : decode cX6_pass 8 = .ok (.bipush 20, 2) := by decide +kernel
theorem dX6_pass_10 : decode cX6_pass 10 = .ok (.invokestatic 54, 3) := by decide +kernel
theorem dX6_pass_13 : decode cX6_pass 13 = .ok (.ifCond .ne 7, 3) := by decide +kernel
theorem dX6_pass_16 : decode cX6_pass 16 = .ok (.iconst 1, 1) := by decide +kernel
theorem dX6_pass_17 : decode cX6_pass 17 = .ok (.goto 4, 3) := by decide +kernel
theorem dX6_pass_20 : decode cX6_pass 20 = .ok (.iconst 0, 1) := by decide +kernel
theorem dX6_pass_21 : decode cX6_pass 21 = .ok (.iconst 1, 1) := by decide +kernel
theorem dX6_pass_22 : decode cX6_pass 22 = .ok (.invokevirtual 173, 3) := by decide +kernel
theorem dX6_pass_25 : decode cX6_pass 25 = .ok (.ifCond .eq 5, 3) := by decide +kernel
theorem dX6_pass_28 : decode cX6_pass 28 = .ok (.iconst 0, 1) := by decide +kernel
theorem dX6_pass_29 : decode cX6_pass 29 = .ok (.ireturn, 1) := by decide +kernel
theorem dX6_pass_30 : decode cX6_pass 30 = .ok (.aload_n 0, 1) := by decide +kernel
theorem dX6_pass_31 : decode cX6_pass 31 = .ok (.invokevirtual 182, 3) := by decide +kernel
theorem dX6_pass_34 : decode cX6_pass 34 = .ok (.iconst 0, 1) := by decide +kernel
theorem dX6_pass_35 : decode cX6_pass 35 = .ok (.istore_n 2, 1) := by decide +kernel
theorem dX6_pass_36 : decode cX6_pass 36 = .ok (.iconst 0, 1) := by decide +kernel
theorem dX6_pass_37 : decode cX6_pass 37 = .ok (.istore_n 3, 1) := by decide +kernel
theorem dX6_pass_38 : decode cX6_pass 38 = .ok (.iload_n 3, 1) := by decide +kernel
theorem dX6_pass_39 : decode cX6_pass 39 = .ok (.iload_n 1, 1) := by decide +kernel
theorem dX6_pass_40 : decode cX6_pass 40 = .ok (.if_icmp .ge 16, 3) := by decide +kernel
theorem dX6_pass_43 : decode cX6_pass 43 = .ok (.iload_n 2, 1) := by decide +kernel
theorem dX6_pass_44 : decode cX6_pass 44 = .ok (.aload_n 0, 1) := by decide +kernel
theorem dX6_pass_45 : decode cX6_pass 45 = .ok (.invokevirtual 276, 3) := by decide +kernel
theorem dX6_pass_48 : decode cX6_pass 48 = .ok (.iadd, 1) := by decide +kernel
theorem dX6_pass_49 : decode cX6_pass 49 = .ok (.istore_n 2, 1) := by decide +kernel
theorem dX6_pass_50 : decode cX6_pass 50 = .ok (.iinc 3 1, 3) := by decide +kernel
theorem dX6_pass_53 : decode cX6_pass 53 = .ok (.goto (-15), 3) := by decide +kernel
theorem dX6_pass_56 : decode cX6_pass 56 = .ok (.iload_n 2, 1) := by decide +kernel
theorem dX6_pass_57 : decode cX6_pass 57 = .ok (.ireturn, 1) := by decide +kernel
theorem dX6_put_0 : decode cX6_put 0 = .ok (.aload_n 0, 1) := by decide +kernel
theorem dX6_put_1 : decode cX6_put 1 = .ok (.getfield 17, 3) := by decide +kernel
theorem dX6_put_4 : decode cX6_put 4 = .ok (.bipush 74, 2) := by decide +kernel
theorem dX6_put_6 : decode cX6_put 6 = .ok (.iload_n 1, 1) := by decide +kernel
theorem dX6_put_7 : decode cX6_put 7 = .ok (.iadd, 1) := by decide +kernel
theorem dX6_put_8 : decode cX6_put 8 = .ok (.iload_n 2, 1) := by decide +kernel
theorem dX6_put_9 : decode cX6_put 9 = .ok (.iastore, 1) := by decide +kernel
theorem dX6_put_10 : decode cX6_put 10 = .ok (.aload_n 0, 1) := by decide +kernel
theorem dX6_put_11 : decode cX6_put 11 = .ok (.getfield 17, 3) := by decide +kernel
theorem dX6_put_14 : decode cX6_put 14 = .ok (.sipush 254, 3) := by decide +kernel
theorem dX6_put_17 : decode cX6_put 17 = .ok (.iload_n 1, 1) := by decide +kernel
theorem dX6_put_18 : decode cX6_put 18 = .ok (.iadd, 1) := by decide +kernel
theorem dX6_put_19 : decode cX6_put 19 = .ok (.iload_n 3, 1) := by decide +kernel
theorem dX6_put_20 : decode cX6_put 20 = .ok (.iastore, 1) := by decide +kernel
theorem dX6_put_21 : decode cX6_put 21 = .ok (.return_, 1) := by decide +kernel
theorem dX6_putBoth_0 : decode cX6_putBoth 0 = .ok (.aload_n 0, 1) := by decide +kernel
theorem dX6_putBoth_1 : decode cX6_putBoth 1 = .ok (.iload_n 1, 1) := by decide +kernel
theorem dX6_putBoth_2 : decode cX6_putBoth 2 = .ok (.iload_n 2, 1) := by decide +kernel
theorem dX6_putBoth_3 : decode cX6_putBoth 3 = .ok (.iload_n 3, 1) := by decide +kernel
theorem dX6_putBoth_4 : decode cX6_putBoth 4 = .ok (.invokevirtual 295, 3) := by decide +kernel
theorem dX6_putBoth_7 : decode cX6_putBoth 7 = .ok (.iload 4, 2) := by decide +kernel
theorem dX6_putBoth_9 : decode cX6_putBoth 9 = .ok (.ifCond .eq 14, 3) := by decide +kernel
theorem dX6_putBoth_12 : decode cX6_putBoth 12 = .ok (.aload_n 0, 1) := by decide +kernel
theorem dX6_putBoth_13 : decode cX6_putBoth 13 = .ok (.aload_n 0, 1) := by decide +kernel
theorem dX6_putBoth_14 : decode cX6_putBoth 14 = .ok (.iload_n 1, 1) := by decide +kernel
theorem dX6_putBoth_15 : decode cX6_putBoth 15 = .ok (.invokevirtual 237, 3) := by decide +kernel
theorem dX6_putBoth_18 : decode cX6_putBoth 18 = .ok (.iload_n 2, 1) := by decide +kernel
theorem dX6_putBoth_19 : decode cX6_putBoth 19 = .ok (.iload_n 3, 1) := by decide +kernel
theorem dX6_putBoth_20 : decode cX6_putBoth 20 = .ok (.invokevirtual 295, 3) := by decide +kernel
theorem dX6_putBoth_23 : decode cX6_putBoth 23 = .ok (.return_, 1) := by decide +kernel
theorem dX6_paint_0 : decode cX6_paint 0 = .ok (.aload_n 0, 1) := by decide +kernel
theorem dX6_paint_1 : decode cX6_paint 1 = .ok (.iconst 0, 1) := by decide +kernel
theorem dX6_paint_2 : decode cX6_paint 2 = .ok (.putfield 51, 3) := by decide +kernel
theorem dX6_paint_5 : decode cX6_paint 5 = .ok (.aload_n 0, 1) := by decide +kernel
theorem dX6_paint_6 : decode cX6_paint 6 = .ok (.iload_n 1, 1) := by decide +kernel
theorem dX6_paint_7 : decode cX6_paint 7 = .ok (.iload_n 2, 1) := by decide +kernel
theorem dX6_paint_8 : decode cX6_paint 8 = .ok (.invokevirtual 258, 3) := by decide +kernel
theorem dX6_paint_11 : decode cX6_paint 11 = .ok (.ifCond .ne 37, 3) := by decide +kernel
theorem dX6_paint_14 : decode cX6_paint 14 = .ok (.aload_n 0, 1) := by decide +kernel
theorem dX6_paint_15 : decode cX6_paint 15 = .ok (.iload_n 3, 1) := by decide +kernel
theorem dX6_paint_16 : decode cX6_paint 16 = .ok (.iconst 1, 1) := by decide +kernel
theorem dX6_paint_17 : decode cX6_paint 17 = .ok (.bipush 6, 2) := by decide +kernel
theorem dX6_paint_19 : decode cX6_paint 19 = .ok (.invokestatic 54, 3) := by decide +kernel
theorem dX6_paint_22 : decode cX6_paint 22 = .ok (.ifCond .eq 14, 3) := by decide +kernel
theorem dX6_paint_25 : decode cX6_paint 25 = .ok (.iload 4, 2) := by decide +kernel
theorem dX6_paint_27 : decode cX6_paint 27 = .ok (.iconst 1, 1) := by decide +kernel
theorem dX6_paint_28 : decode cX6_paint 28 = .ok (.bipush 9, 2) := by decide +kernel
theorem dX6_paint_30 : decode cX6_paint 30 = .ok (.invokestatic 54, 3) := by decide +kernel
theorem dX6_paint_33 : decode cX6_paint 33 = .ok (.ifCond .ne 7, 3) := by decide +kernel
theorem dX6_paint_36 : decode cX6_paint 36 = .ok (.iconst 1, 1) := by decide +kernel
theorem dX6_paint_37 : decode cX6_paint 37 = .ok (.goto 4, 3) := by decide +kernel
theorem dX6_paint_40 : decode cX6_paint 40 = .ok (.iconst 0, 1) := by decide +kernel
theorem dX6_paint_41 : decode cX6_paint 41 = .ok (.iconst 2, 1) := by decide +kernel
theorem dX6_paint_42 : decode cX6_paint 42 = .ok (.invokevirtual 173, 3) := by decide +kernel
theorem dX6_paint_45 : decode cX6_paint 45 = .ok (.ifCond .eq 5, 3) := by decide +kernel
theorem dX6_paint_48 : decode cX6_paint 48 = .ok (.iconst 0, 1) := by decide +kernel
theorem dX6_paint_49 : decode cX6_paint 49 = .ok (.ireturn, 1) := by decide +kernel
theorem dX6_paint_50 : decode cX6_paint 50 = .ok (.aload_n 0, 1) := by decide +kernel
theorem dX6_paint_51 : decode cX6_paint 51 = .ok (.invokevirtual 182, 3) := by decide +kernel
theorem dX6_paint_54 : decode cX6_paint 54 = .ok (.aload_n 0, 1) := by decide +kernel
theorem dX6_paint_55 : decode cX6_paint 55 = .ok (.aload_n 0, 1) := by decide +kernel
theorem dX6_paint_56 : decode cX6_paint 56 = .ok (.iload_n 1, 1) := by decide +kernel
theorem dX6_paint_57 : decode cX6_paint 57 = .ok (.iload_n 2, 1) := by decide +kernel
theorem dX6_paint_58 : decode cX6_paint 58 = .ok (.invokevirtual 261, 3) := by decide +kernel
theorem dX6_paint_61 : decode cX6_paint 61 = .ok (.iload_n 3, 1) := by decide +kernel
theorem dX6_paint_62 : decode cX6_paint 62 = .ok (.iload 4, 2) := by decide +kernel
theorem dX6_paint_64 : decode cX6_paint 64 = .ok (.iload 5, 2) := by decide +kernel
theorem dX6_paint_66 : decode cX6_paint 66 = .ok (.invokevirtual 299, 3) := by decide +kernel
theorem dX6_paint_69 : decode cX6_paint 69 = .ok (.aload_n 0, 1) := by decide +kernel
theorem dX6_paint_70 : decode cX6_paint 70 = .ok (.invokevirtual 249, 3) := by decide +kernel
theorem dX6_paint_73 : decode cX6_paint 73 = .ok (.ireturn, 1) := by decide +kernel
theorem dX6_stroke_0 : decode cX6_stroke 0 = .ok (.aload_n 0, 1) := by decide +kernel
theorem dX6_stroke_1 : decode cX6_stroke 1 = .ok (.iconst 0, 1) := by decide +kernel
theorem dX6_stroke_2 : decode cX6_stroke 2 = .ok (.putfield 51, 3) := by decide +kernel
theorem dX6_stroke_5 : decode cX6_stroke 5 = .ok (.aload_n 0, 1) := by decide +kernel
theorem dX6_stroke_6 : decode cX6_stroke 6 = .ok (.iload_n 1, 1) := by decide +kernel
theorem dX6_stroke_7 : decode cX6_stroke 7 = .ok (.iload_n 2, 1) := by decide +kernel
theorem dX6_stroke_8 : decode cX6_stroke 8 = .ok (.invokevirtual 258, 3) := by decide +kernel
theorem dX6_stroke_11 : decode cX6_stroke 11 = .ok (.ifCond .ne 47, 3) := by decide +kernel
theorem dX6_stroke_14 : decode cX6_stroke 14 = .ok (.aload_n 0, 1) := by decide +kernel
theorem dX6_stroke_15 : decode cX6_stroke 15 = .ok (.iload_n 3, 1) := by decide +kernel
theorem dX6_stroke_16 : decode cX6_stroke 16 = .ok (.iconst 0, 1) := by decide +kernel
theorem dX6_stroke_17 : decode cX6_stroke 17 = .ok (.iconst 3, 1) := by decide +kernel
theorem dX6_stroke_18 : decode cX6_stroke 18 = .ok (.invokestatic 54, 3) := by decide +kernel
theorem dX6_stroke_21 : decode cX6_stroke 21 = .ok (.ifCond .eq 25, 3) := by decide +kernel
theorem dX6_stroke_24 : decode cX6_stroke 24 = .ok (.iload 4, 2) := by decide +kernel
theorem dX6_stroke_26 : decode cX6_stroke 26 = .ok (.iconst 1, 1) := by decide +kernel
theorem dX6_stroke_27 : decode cX6_stroke 27 = .ok (.bipush 15, 2) := by decide +kernel
theorem dX6_stroke_29 : decode cX6_stroke 29 = .ok (.invokestatic 54, 3) := by decide +kernel
theorem dX6_stroke_32 : decode cX6_stroke 32 = .ok (.ifCond .eq 14, 3) := by decide +kernel
theorem dX6_stroke_35 : decode cX6_stroke 35 = .ok (.iload 5, 2) := by decide +kernel
theorem dX6_stroke_37 : decode cX6_stroke 37 = .ok (.iconst 1, 1) := by decide +kernel
theorem dX6_stroke_38 : decode cX6_stroke 38 = .ok (.bipush 6, 2) := by decide +kernel
theorem dX6_stroke_40 : decode cX6_stroke 40 = .ok (.invokestatic 54, 3) := by decide +kernel
theorem dX6_stroke_43 : decode cX6_stroke 43 = .ok (.ifCond .ne 7, 3) := by decide +kernel
theorem dX6_stroke_46 : decode cX6_stroke 46 = .ok (.iconst 1, 1) := by decide +kernel
theorem dX6_stroke_47 : decode cX6_stroke 47 = .ok (.goto 4, 3) := by decide +kernel
theorem dX6_stroke_50 : decode cX6_stroke 50 = .ok (.iconst 0, 1) := by decide +kernel
theorem dX6_stroke_51 : decode cX6_stroke 51 = .ok (.iconst 2, 1) := by decide +kernel
theorem dX6_stroke_52 : decode cX6_stroke 52 = .ok (.invokevirtual 173, 3) := by decide +kernel
theorem dX6_stroke_55 : decode cX6_stroke 55 = .ok (.ifCond .eq 5, 3) := by decide +kernel
theorem dX6_stroke_58 : decode cX6_stroke 58 = .ok (.iconst 0, 1) := by decide +kernel
theorem dX6_stroke_59 : decode cX6_stroke 59 = .ok (.ireturn, 1) := by decide +kernel
theorem dX6_stroke_60 : decode cX6_stroke 60 = .ok (.aload_n 0, 1) := by decide +kernel
theorem dX6_stroke_61 : decode cX6_stroke 61 = .ok (.invokevirtual 182, 3) := by decide +kernel
theorem dX6_stroke_64 : decode cX6_stroke 64 = .ok (.iconst 0, 1) := by decide +kernel
theorem dX6_stroke_65 : decode cX6_stroke 65 = .ok (.istore 6, 2) := by decide +kernel
theorem dX6_stroke_67 : decode cX6_stroke 67 = .ok (.aload_n 0, 1) := by decide +kernel
theorem dX6_stroke_68 : decode cX6_stroke 68 = .ok (.iload_n 1, 1) := by decide +kernel
theorem dX6_stroke_69 : decode cX6_stroke 69 = .ok (.iload_n 2, 1) := by decide +kernel
theorem dX6_stroke_70 : decode cX6_stroke 70 = .ok (.invokevirtual 261, 3) := by decide +kernel
theorem dX6_stroke_73 : decode cX6_stroke 73 = .ok (.istore 7, 2) := by decide +kernel
theorem dX6_stroke_75 : decode cX6_stroke 75 = .ok (.iload 6, 2) := by decide +kernel
theorem dX6_stroke_77 : decode cX6_stroke 77 = .ok (.iload 4, 2) := by decide +kernel
theorem dX6_stroke_79 : decode cX6_stroke 79 = .ok (.if_icmp .ge 49, 3) := by decide +kernel
theorem dX6_stroke_82 : decode cX6_stroke 82 = .ok (.iload 7, 2) := by decide +kernel
theorem dX6_stroke_84 : decode cX6_stroke 84 = .ok (.iconst (-1), 1) := by decide +kernel
theorem dX6_stroke_85 : decode cX6_stroke 85 = .ok (.if_icmp .eq 43, 3) := by decide +kernel
theorem dX6_stroke_88 : decode cX6_stroke 88 = .ok (.aload_n 0, 1) := by decide +kernel
theorem dX6_stroke_89 : decode cX6_stroke 89 = .ok (.getfield 17, 3) := by decide +kernel
theorem dX6_stroke_92 : decode cX6_stroke 92 = .ok (.sipush 434, 3) := by decide +kernel
theorem dX6_stroke_95 : decode cX6_stroke 95 = .ok (.iload 7, 2) := by decide +kernel
theorem dX6_stroke_97 : decode cX6_stroke 97 = .ok (.iadd, 1) := by decide +kernel
theorem dX6_stroke_98 : decode cX6_stroke 98 = .ok (.iaload, 1) := by decide +kernel
theorem dX6_stroke_99 : decode cX6_stroke 99 = .ok (.ifCond .ne 29, 3) := by decide +kernel
theorem dX6_stroke_102 : decode cX6_stroke 102 = .ok (.aload_n 0, 1) := by decide +kernel
theorem dX6_stroke_103 : decode cX6_stroke 103 = .ok (.iload 7, 2) := by decide +kernel
theorem dX6_stroke_105 : decode cX6_stroke 105 = .ok (.iload 5, 2) := by decide +kernel
theorem dX6_stroke_107 : decode cX6_stroke 107 = .ok (.bipush 6, 2) := by decide +kernel
theorem dX6_stroke_109 : decode cX6_stroke 109 = .ok (.iconst 1, 1) := by decide +kernel
theorem dX6_stroke_110 : decode cX6_stroke 110 = .ok (.invokevirtual 299, 3) := by decide +kernel
theorem dX6_stroke_113 : decode cX6_stroke 113 = .ok (.iinc 6 1, 3) := by decide +kernel
theorem dX6_stroke_116 : decode cX6_stroke 116 = .ok (.aload_n 0, 1) := by decide +kernel
theorem dX6_stroke_117 : decode cX6_stroke 117 = .ok (.iload 7, 2) := by decide +kernel
theorem dX6_stroke_119 : decode cX6_stroke 119 = .ok (.iload_n 3, 1) := by decide +kernel
theorem dX6_stroke_120 : decode cX6_stroke 120 = .ok (.invokevirtual 225, 3) := by decide +kernel
theorem dX6_stroke_123 : decode cX6_stroke 123 = .ok (.istore 7, 2) := by decide +kernel
theorem dX6_stroke_125 : decode cX6_stroke 125 = .ok (.goto (-50), 3) := by decide +kernel
theorem dX6_stroke_128 : decode cX6_stroke 128 = .ok (.iload 6, 2) := by decide +kernel
theorem dX6_stroke_130 : decode cX6_stroke 130 = .ok (.ireturn, 1) := by decide +kernel
theorem dX6_stamp_0 : decode cX6_stamp 0 = .ok (.aload_n 0, 1) := by decide +kernel
theorem dX6_stamp_1 : decode cX6_stamp 1 = .ok (.iconst 0, 1) := by decide +kernel
theorem dX6_stamp_2 : decode cX6_stamp 2 = .ok (.putfield 51, 3) := by decide +kernel
theorem dX6_stamp_5 : decode cX6_stamp 5 = .ok (.aload_n 0, 1) := by decide +kernel
theorem dX6_stamp_6 : decode cX6_stamp 6 = .ok (.iload_n 1, 1) := by decide +kernel
theorem dX6_stamp_7 : decode cX6_stamp 7 = .ok (.invokevirtual 286, 3) := by decide +kernel
theorem dX6_stamp_10 : decode cX6_stamp 10 = .ok (.ifCond .ne 12, 3) := by decide +kernel
theorem dX6_stamp_13 : decode cX6_stamp 13 = .ok (.aload_n 0, 1) := by decide +kernel
theorem dX6_stamp_14 : decode cX6_stamp 14 = .ok (.iload_n 2, 1) := by decide +kernel
theorem dX6_stamp_15 : decode cX6_stamp 15 = .ok (.iload_n 3, 1) := by decide +kernel
theorem dX6_stamp_16 : decode cX6_stamp 16 = .ok (.invokevirtual 258, 3) := by decide +kernel
theorem dX6_stamp_19 : decode cX6_stamp 19 = .ok (.ifCond .eq 5, 3) := by decide +kernel
theorem dX6_stamp_22 : decode cX6_stamp 22 = .ok (.iconst 0, 1) := by decide +kernel
theorem dX6_stamp_23 : decode cX6_stamp 23 = .ok (.ireturn, 1) := by decide +kernel
theorem dX6_stamp_24 : decode cX6_stamp 24 = .ok (.aload_n 0, 1) := by decide +kernel
theorem dX6_stamp_25 : decode cX6_stamp 25 = .ok (.invokevirtual 182, 3) := by decide +kernel
theorem dX6_stamp_28 : decode cX6_stamp 28 = .ok (.aload_n 0, 1) := by decide +kernel
theorem dX6_stamp_29 : decode cX6_stamp 29 = .ok (.getfield 17, 3) := by decide +kernel
theorem dX6_stamp_32 : decode cX6_stamp 32 = .ok (.aload_n 0, 1) := by decide +kernel
theorem dX6_stamp_33 : decode cX6_stamp 33 = .ok (.getfield 23, 3) := by decide +kernel
theorem dX6_stamp_36 : decode cX6_stamp 36 = .ok (.invokestatic 185, 3) := by decide +kernel
theorem dX6_stamp_39 : decode cX6_stamp 39 = .ok (.iconst 0, 1) := by decide +kernel
theorem dX6_stamp_40 : decode cX6_stamp 40 = .ok (.istore 5, 2) := by decide +kernel
theorem dX6_stamp_42 : decode cX6_stamp 42 = .ok (.iload 5, 2) := by decide +kernel
theorem dX6_stamp_44 : decode cX6_stamp 44 = .ok (.aload_n 0, 1) := by decide +kernel
theorem dX6_stamp_45 : decode cX6_stamp 45 = .ok (.iload_n 1, 1) := by decide +kernel
theorem dX6_stamp_46 : decode cX6_stamp 46 = .ok (.iconst 1, 1) := by decide +kernel
theorem dX6_stamp_47 : decode cX6_stamp 47 = .ok (.invokevirtual 279, 3) := by decide +kernel
theorem dX6_stamp_50 : decode cX6_stamp 50 = .ok (.if_icmp .ge 81, 3) := by decide +kernel
theorem dX6_stamp_53 : decode cX6_stamp 53 = .ok (.iconst 0, 1) := by decide +kernel
theorem dX6_stamp_54 : decode cX6_stamp 54 = .ok (.istore 6, 2) := by decide +kernel
theorem dX6_stamp_56 : decode cX6_stamp 56 = .ok (.iload 6, 2) := by decide +kernel
theorem dX6_stamp_58 : decode cX6_stamp 58 = .ok (.aload_n 0, 1) := by decide +kernel
theorem dX6_stamp_59 : decode cX6_stamp 59 = .ok (.iload_n 1, 1) := by decide +kernel
theorem dX6_stamp_60 : decode cX6_stamp 60 = .ok (.iconst 0, 1) := by decide +kernel
theorem dX6_stamp_61 : decode cX6_stamp 61 = .ok (.invokevirtual 279, 3) := by decide +kernel
theorem dX6_stamp_64 : decode cX6_stamp 64 = .ok (.if_icmp .ge 61, 3) := by decide +kernel
theorem dX6_stamp_67 : decode cX6_stamp 67 = .ok (.aload_n 0, 1) := by decide +kernel
theorem dX6_stamp_68 : decode cX6_stamp 68 = .ok (.iload_n 1, 1) := by decide +kernel
theorem dX6_stamp_69 : decode cX6_stamp 69 = .ok (.iload 5, 2) := by decide +kernel
theorem dX6_stamp_71 : decode cX6_stamp 71 = .ok (.iload 6, 2) := by decide +kernel
theorem dX6_stamp_73 : decode cX6_stamp 73 = .ok (.invokevirtual 282, 3) := by decide +kernel
theorem dX6_stamp_76 : decode cX6_stamp 76 = .ok (.istore 7, 2) := by decide +kernel
theorem dX6_stamp_78 : decode cX6_stamp 78 = .ok (.iload 7, 2) := by decide +kernel
theorem dX6_stamp_80 : decode cX6_stamp 80 = .ok (.ifCond .le 39, 3) := by decide +kernel
theorem dX6_stamp_83 : decode cX6_stamp 83 = .ok (.aload_n 0, 1) := by decide +kernel
theorem dX6_stamp_84 : decode cX6_stamp 84 = .ok (.iload_n 2, 1) := by decide +kernel
theorem dX6_stamp_85 : decode cX6_stamp 85 = .ok (.iload 6, 2) := by decide +kernel
theorem dX6_stamp_87 : decode cX6_stamp 87 = .ok (.iadd, 1) := by decide +kernel
theorem dX6_stamp_88 : decode cX6_stamp 88 = .ok (.iload_n 3, 1) := by decide +kernel
theorem dX6_stamp_89 : decode cX6_stamp 89 = .ok (.iload 5, 2) := by decide +kernel
theorem dX6_stamp_91 : decode cX6_stamp 91 = .ok (.iadd, 1) := by decide +kernel
theorem dX6_stamp_92 : decode cX6_stamp 92 = .ok (.invokevirtual 198, 3) := by decide +kernel
theorem dX6_stamp_95 : decode cX6_stamp 95 = .ok (.ifCond .eq 24, 3) := by decide +kernel
theorem dX6_stamp_98 : decode cX6_stamp 98 = .ok (.aload_n 0, 1) := by decide +kernel
theorem dX6_stamp_99 : decode cX6_stamp 99 = .ok (.aload_n 0, 1) := by decide +kernel
theorem dX6_stamp_100 : decode cX6_stamp 100 = .ok (.iload_n 2, 1) := by decide +kernel
theorem dX6_stamp_101 : decode cX6_stamp 101 = .ok (.iload 6, 2) := by decide +kernel
theorem dX6_stamp_103 : decode cX6_stamp 103 = .ok (.iadd, 1) := by decide +kernel
theorem dX6_stamp_104 : decode cX6_stamp 104 = .ok (.iload_n 3, 1) := by decide +kernel
theorem dX6_stamp_105 : decode cX6_stamp 105 = .ok (.iload 5, 2) := by decide +kernel
theorem dX6_stamp_107 : decode cX6_stamp 107 = .ok (.iadd, 1) := by decide +kernel
theorem dX6_stamp_108 : decode cX6_stamp 108 = .ok (.invokevirtual 261, 3) := by decide +kernel
theorem dX6_stamp_111 : decode cX6_stamp 111 = .ok (.iload 7, 2) := by decide +kernel
theorem dX6_stamp_113 : decode cX6_stamp 113 = .ok (.iconst 4, 1) := by decide +kernel
theorem dX6_stamp_114 : decode cX6_stamp 114 = .ok (.iload 4, 2) := by decide +kernel
theorem dX6_stamp_116 : decode cX6_stamp 116 = .ok (.invokevirtual 299, 3) := by decide +kernel
theorem dX6_stamp_119 : decode cX6_stamp 119 = .ok (.iinc 6 1, 3) := by decide +kernel
theorem dX6_stamp_122 : decode cX6_stamp 122 = .ok (.goto (-66), 3) := by decide +kernel
theorem dX6_stamp_125 : decode cX6_stamp 125 = .ok (.iinc 5 1, 3) := by decide +kernel
theorem dX6_stamp_128 : decode cX6_stamp 128 = .ok (.goto (-86), 3) := by decide +kernel
theorem dX6_stamp_131 : decode cX6_stamp 131 = .ok (.iconst 0, 1) := by decide +kernel
theorem dX6_stamp_132 : decode cX6_stamp 132 = .ok (.istore 5, 2) := by decide +kernel
theorem dX6_stamp_134 : decode cX6_stamp 134 = .ok (.iconst 0, 1) := by decide +kernel
theorem dX6_stamp_135 : decode cX6_stamp 135 = .ok (.istore 6, 2) := by decide +kernel
theorem dX6_stamp_137 : decode cX6_stamp 137 = .ok (.iload 6, 2) := by decide +kernel
theorem dX6_stamp_139 : decode cX6_stamp 139 = .ok (.aload_n 0, 1) := by decide +kernel
theorem dX6_stamp_140 : decode cX6_stamp 140 = .ok (.invokevirtual 205, 3) := by decide +kernel
theorem dX6_stamp_143 : decode cX6_stamp 143 = .ok (.if_icmp .ge 42, 3) := by decide +kernel
theorem dX6_stamp_146 : decode cX6_stamp 146 = .ok (.iload 5, 2) := by decide +kernel
theorem dX6_stamp_148 : decode cX6_stamp 148 = .ok (.aload_n 0, 1) := by decide +kernel
theorem dX6_stamp_149 : decode cX6_stamp 149 = .ok (.getfield 17, 3) := by decide +kernel
theorem dX6_stamp_152 : decode cX6_stamp 152 = .ok (.bipush 74, 2) := by decide +kernel
theorem dX6_stamp_154 : decode cX6_stamp 154 = .ok (.iload 6, 2) := by decide +kernel
theorem dX6_stamp_156 : decode cX6_stamp 156 = .ok (.iadd, 1) := by decide +kernel
theorem dX6_stamp_157 : decode cX6_stamp 157 = .ok (.iaload, 1) := by decide +kernel
theorem dX6_stamp_158 : decode cX6_stamp 158 = .ok (.aload_n 0, 1) := by decide +kernel
theorem dX6_stamp_159 : decode cX6_stamp 159 = .ok (.getfield 23, 3) := by decide +kernel
theorem dX6_stamp_162 : decode cX6_stamp 162 = .ok (.bipush 74, 2) := by decide +kernel
theorem dX6_stamp_164 : decode cX6_stamp 164 = .ok (.iload 6, 2) := by decide +kernel
theorem dX6_stamp_166 : decode cX6_stamp 166 = .ok (.iadd, 1) := by decide +kernel
theorem dX6_stamp_167 : decode cX6_stamp 167 = .ok (.iaload, 1) := by decide +kernel
theorem dX6_stamp_168 : decode cX6_stamp 168 = .ok (.if_icmp .eq 7, 3) := by decide +kernel
theorem dX6_stamp_171 : decode cX6_stamp 171 = .ok (.iconst 1, 1) := by decide +kernel
theorem dX6_stamp_172 : decode cX6_stamp 172 = .ok (.goto 4, 3) := by decide +kernel
theorem dX6_stamp_175 : decode cX6_stamp 175 = .ok (.iconst 0, 1) := by decide +kernel
theorem dX6_stamp_176 : decode cX6_stamp 176 = .ok (.iadd, 1) := by decide +kernel
theorem dX6_stamp_177 : decode cX6_stamp 177 = .ok (.istore 5, 2) := by decide +kernel
theorem dX6_stamp_179 : decode cX6_stamp 179 = .ok (.iinc 6 1, 3) := by decide +kernel
theorem dX6_stamp_182 : decode cX6_stamp 182 = .ok (.goto (-45), 3) := by decide +kernel
theorem dX6_stamp_185 : decode cX6_stamp 185 = .ok (.iload 5, 2) := by decide +kernel
theorem dX6_stamp_187 : decode cX6_stamp 187 = .ok (.ireturn, 1) := by decide +kernel
theorem dX6_spar_0 : decode cX6_spar 0 = .ok (.aload_n 0, 1) := by decide +kernel
theorem dX6_spar_1 : decode cX6_spar 1 = .ok (.iconst 0, 1) := by decide +kernel
theorem dX6_spar_2 : decode cX6_spar 2 = .ok (.putfield 51, 3) := by decide +kernel
theorem dX6_spar_5 : decode cX6_spar 5 = .ok (.aload_n 0, 1) := by decide +kernel
theorem dX6_spar_6 : decode cX6_spar 6 = .ok (.iload_n 1, 1) := by decide +kernel
theorem dX6_spar_7 : decode cX6_spar 7 = .ok (.iload_n 2, 1) := by decide +kernel
theorem dX6_spar_8 : decode cX6_spar 8 = .ok (.invokevirtual 258, 3) := by decide +kernel
theorem dX6_spar_11 : decode cX6_spar 11 = .ok (.ifCond .ne 27, 3) := by decide +kernel
theorem dX6_spar_14 : decode cX6_spar 14 = .ok (.aload_n 0, 1) := by decide +kernel
theorem dX6_spar_15 : decode cX6_spar 15 = .ok (.iload 4, 2) := by decide +kernel
theorem dX6_spar_17 : decode cX6_spar 17 = .ok (.iconst 1, 1) := by decide +kernel
theorem dX6_spar_18 : decode cX6_spar 18 = .ok (.bipush 15, 2) := by decide +kernel
theorem dX6_spar_20 : decode cX6_spar 20 = .ok (.invokestatic 54, 3) := by decide +kernel
theorem dX6_spar_23 : decode cX6_spar 23 = .ok (.ifCond .ne 7, 3) := by decide +kernel
theorem dX6_spar_26 : decode cX6_spar 26 = .ok (.iconst 1, 1) := by decide +kernel
theorem dX6_spar_27 : decode cX6_spar 27 = .ok (.goto 4, 3) := by decide +kernel
theorem dX6_spar_30 : decode cX6_spar 30 = .ok (.iconst 0, 1) := by decide +kernel
theorem dX6_spar_31 : decode cX6_spar 31 = .ok (.iconst 2, 1) := by decide +kernel
theorem dX6_spar_32 : decode cX6_spar 32 = .ok (.invokevirtual 173, 3) := by decide +kernel
theorem dX6_spar_35 : decode cX6_spar 35 = .ok (.ifCond .eq 5, 3) := by decide +kernel
theorem dX6_spar_38 : decode cX6_spar 38 = .ok (.iconst 0, 1) := by decide +kernel
theorem dX6_spar_39 : decode cX6_spar 39 = .ok (.ireturn, 1) := by decide +kernel
theorem dX6_spar_40 : decode cX6_spar 40 = .ok (.aload_n 0, 1) := by decide +kernel
theorem dX6_spar_41 : decode cX6_spar 41 = .ok (.invokevirtual 182, 3) := by decide +kernel
theorem dX6_spar_44 : decode cX6_spar 44 = .ok (.iconst 0, 1) := by decide +kernel
theorem dX6_spar_45 : decode cX6_spar 45 = .ok (.istore 5, 2) := by decide +kernel
theorem dX6_spar_47 : decode cX6_spar 47 = .ok (.aload_n 0, 1) := by decide +kernel
theorem dX6_spar_48 : decode cX6_spar 48 = .ok (.iload_n 1, 1) := by decide +kernel
theorem dX6_spar_49 : decode cX6_spar 49 = .ok (.iload_n 2, 1) := by decide +kernel
theorem dX6_spar_50 : decode cX6_spar 50 = .ok (.invokevirtual 261, 3) := by decide +kernel
theorem dX6_spar_53 : decode cX6_spar 53 = .ok (.istore 6, 2) := by decide +kernel
theorem dX6_spar_55 : decode cX6_spar 55 = .ok (.iconst 0, 1) := by decide +kernel
theorem dX6_spar_56 : decode cX6_spar 56 = .ok (.istore 7, 2) := by decide +kernel
theorem dX6_spar_58 : decode cX6_spar 58 = .ok (.iload 7, 2) := by decide +kernel
theorem dX6_spar_60 : decode cX6_spar 60 = .ok (.iload 4, 2) := by decide +kernel
theorem dX6_spar_62 : decode cX6_spar 62 = .ok (.if_icmp .ge 62, 3) := by decide +kernel
theorem dX6_spar_65 : decode cX6_spar 65 = .ok (.iload 6, 2) := by decide +kernel
theorem dX6_spar_67 : decode cX6_spar 67 = .ok (.iconst (-1), 1) := by decide +kernel
theorem dX6_spar_68 : decode cX6_spar 68 = .ok (.if_icmp .eq 56, 3) := by decide +kernel
theorem dX6_spar_71 : decode cX6_spar 71 = .ok (.iload 5, 2) := by decide +kernel
theorem dX6_spar_73 : decode cX6_spar 73 = .ok (.iconst 1, 1) := by decide +kernel
theorem dX6_spar_74 : decode cX6_spar 74 = .ok (.aload_n 0, 1) := by decide +kernel
theorem dX6_spar_75 : decode cX6_spar 75 = .ok (.getfield 17, 3) := by decide +kernel
theorem dX6_spar_78 : decode cX6_spar 78 = .ok (.sipush 434, 3) := by decide +kernel
theorem dX6_spar_81 : decode cX6_spar 81 = .ok (.iload 6, 2) := by decide +kernel
theorem dX6_spar_83 : decode cX6_spar 83 = .ok (.iadd, 1) := by decide +kernel
theorem dX6_spar_84 : decode cX6_spar 84 = .ok (.iaload, 1) := by decide +kernel
theorem dX6_spar_85 : decode cX6_spar 85 = .ok (.isub, 1) := by decide +kernel
theorem dX6_spar_86 : decode cX6_spar 86 = .ok (.iadd, 1) := by decide +kernel
theorem dX6_spar_87 : decode cX6_spar 87 = .ok (.istore 5, 2) := by decide +kernel
theorem dX6_spar_89 : decode cX6_spar 89 = .ok (.aload_n 0, 1) := by decide +kernel
theorem dX6_spar_90 : decode cX6_spar 90 = .ok (.getfield 17, 3) := by decide +kernel
theorem dX6_spar_93 : decode cX6_spar 93 = .ok (.sipush 434, 3) := by decide +kernel
theorem dX6_spar_96 : decode cX6_spar 96 = .ok (.iload 6, 2) := by decide +kernel
theorem dX6_spar_98 : decode cX6_spar 98 = .ok (.iadd, 1) := by decide +kernel
theorem dX6_spar_99 : decode cX6_spar 99 = .ok (.iconst 1, 1) := by decide +kernel
theorem dX6_spar_100 : decode cX6_spar 100 = .ok (.iastore, 1) := by decide +kernel
theorem dX6_spar_101 : decode cX6_spar 101 = .ok (.aload_n 0, 1) := by decide +kernel
theorem dX6_spar_102 : decode cX6_spar 102 = .ok (.iload 6, 2) := by decide +kernel
theorem dX6_spar_104 : decode cX6_spar 104 = .ok (.iload_n 3, 1) := by decide +kernel
theorem dX6_spar_105 : decode cX6_spar 105 = .ok (.ifCond .eq 7, 3) := by decide +kernel
theorem dX6_spar_108 : decode cX6_spar 108 = .ok (.iconst 1, 1) := by decide +kernel
theorem dX6_spar_109 : decode cX6_spar 109 = .ok (.goto 4, 3) := by decide +kernel
theorem dX6_spar_112 : decode cX6_spar 112 = .ok (.iconst 3, 1) := by decide +kernel
theorem dX6_spar_113 : decode cX6_spar 113 = .ok (.invokevirtual 225, 3) := by decide +kernel
theorem dX6_spar_116 : decode cX6_spar 116 = .ok (.istore 6, 2) := by decide +kernel
theorem dX6_spar_118 : decode cX6_spar 118 = .ok (.iinc 7 1, 3) := by decide +kernel
theorem dX6_spar_121 : decode cX6_spar 121 = .ok (.goto (-63), 3) := by decide +kernel
theorem dX6_spar_124 : decode cX6_spar 124 = .ok (.iload 5, 2) := by decide +kernel
theorem dX6_spar_126 : decode cX6_spar 126 = .ok (.ireturn, 1) := by decide +kernel
theorem dX6_strip_0 : decode cX6_strip 0 = .ok (.aload_n 0, 1) := by decide +kernel
theorem dX6_strip_1 : decode cX6_strip 1 = .ok (.iconst 0, 1) := by decide +kernel
theorem dX6_strip_2 : decode cX6_strip 2 = .ok (.putfield 51, 3) := by decide +kernel
theorem dX6_strip_5 : decode cX6_strip 5 = .ok (.aload_n 0, 1) := by decide +kernel
theorem dX6_strip_6 : decode cX6_strip 6 = .ok (.iload_n 1, 1) := by decide +kernel
theorem dX6_strip_7 : decode cX6_strip 7 = .ok (.iload_n 2, 1) := by decide +kernel
theorem dX6_strip_8 : decode cX6_strip 8 = .ok (.invokevirtual 258, 3) := by decide +kernel
theorem dX6_strip_11 : decode cX6_strip 11 = .ok (.ifCond .ne 34, 3) := by decide +kernel
theorem dX6_strip_14 : decode cX6_strip 14 = .ok (.aload_n 0, 1) := by decide +kernel
theorem dX6_strip_15 : decode cX6_strip 15 = .ok (.aload_n 0, 1) := by decide +kernel
theorem dX6_strip_16 : decode cX6_strip 16 = .ok (.getfield 17, 3) := by decide +kernel
theorem dX6_strip_19 : decode cX6_strip 19 = .ok (.sipush 434, 3) := by decide +kernel
theorem dX6_strip_22 : decode cX6_strip 22 = .ok (.aload_n 0, 1) := by decide +kernel
theorem dX6_strip_23 : decode cX6_strip 23 = .ok (.iload_n 1, 1) := by decide +kernel
theorem dX6_strip_24 : decode cX6_strip 24 = .ok (.iload_n 2, 1) := by decide +kernel
theorem dX6_strip_25 : decode cX6_strip 25 = .ok (.invokevirtual 261, 3) := by decide +kernel
theorem dX6_strip_28 : decode cX6_strip 28 = .ok (.iadd, 1) := by decide +kernel
theorem dX6_strip_29 : decode cX6_strip 29 = .ok (.iaload, 1) := by decide +kernel
theorem dX6_strip_30 : decode cX6_strip 30 = .ok (.ifCond .ne 7, 3) := by decide +kernel
theorem dX6_strip_33 : decode cX6_strip 33 = .ok (.iconst 1, 1) := by decide +kernel
theorem dX6_strip_34 : decode cX6_strip 34 = .ok (.goto 4, 3) := by decide +kernel
theorem dX6_strip_37 : decode cX6_strip 37 = .ok (.iconst 0, 1) := by decide +kernel
theorem dX6_strip_38 : decode cX6_strip 38 = .ok (.iconst 2, 1) := by decide +kernel
theorem dX6_strip_39 : decode cX6_strip 39 = .ok (.invokevirtual 173, 3) := by decide +kernel
theorem dX6_strip_42 : decode cX6_strip 42 = .ok (.ifCond .eq 5, 3) := by decide +kernel
theorem dX6_strip_45 : decode cX6_strip 45 = .ok (.iconst 0, 1) := by decide +kernel
theorem dX6_strip_46 : decode cX6_strip 46 = .ok (.ireturn, 1) := by decide +kernel
theorem dX6_strip_47 : decode cX6_strip 47 = .ok (.aload_n 0, 1) := by decide +kernel
theorem dX6_strip_48 : decode cX6_strip 48 = .ok (.invokevirtual 182, 3) := by decide +kernel
theorem dX6_strip_51 : decode cX6_strip 51 = .ok (.aload_n 0, 1) := by decide +kernel
theorem dX6_strip_52 : decode cX6_strip 52 = .ok (.getfield 17, 3) := by decide +kernel
theorem dX6_strip_55 : decode cX6_strip 55 = .ok (.sipush 434, 3) := by decide +kernel
theorem dX6_strip_58 : decode cX6_strip 58 = .ok (.aload_n 0, 1) := by decide +kernel
theorem dX6_strip_59 : decode cX6_strip 59 = .ok (.iload_n 1, 1) := by decide +kernel
theorem dX6_strip_60 : decode cX6_strip 60 = .ok (.iload_n 2, 1) := by decide +kernel
theorem dX6_strip_61 : decode cX6_strip 61 = .ok (.invokevirtual 261, 3) := by decide +kernel
theorem dX6_strip_64 : decode cX6_strip 64 = .ok (.iadd, 1) := by decide +kernel
theorem dX6_strip_65 : decode cX6_strip 65 = .ok (.iconst 0, 1) := by decide +kernel
theorem dX6_strip_66 : decode cX6_strip 66 = .ok (.iastore, 1) := by decide +kernel
theorem dX6_strip_67 : decode cX6_strip 67 = .ok (.aload_n 0, 1) := by decide +kernel
theorem dX6_strip_68 : decode cX6_strip 68 = .ok (.invokevirtual 249, 3) := by decide +kernel
theorem dX6_strip_71 : decode cX6_strip 71 = .ok (.ireturn, 1) := by decide +kernel
theorem dX6_wash_0 : decode cX6_wash 0 = .ok (.aload_n 0, 1) := by decide +kernel
theorem dX6_wash_1 : decode cX6_wash 1 = .ok (.iconst 0, 1) := by decide +kernel
theorem dX6_wash_2 : decode cX6_wash 2 = .ok (.putfield 51, 3) := by decide +kernel
theorem dX6_wash_5 : decode cX6_wash 5 = .ok (.aload_n 0, 1) := by decide +kernel
theorem dX6_wash_6 : decode cX6_wash 6 = .ok (.iload_n 1, 1) := by decide +kernel
theorem dX6_wash_7 : decode cX6_wash 7 = .ok (.iload_n 2, 1) := by decide +kernel
theorem dX6_wash_8 : decode cX6_wash 8 = .ok (.invokevirtual 258, 3) := by decide +kernel
theorem dX6_wash_11 : decode cX6_wash 11 = .ok (.ifCond .ne 33, 3) := by decide +kernel
theorem dX6_wash_14 : decode cX6_wash 14 = .ok (.aload_n 0, 1) := by decide +kernel
theorem dX6_wash_15 : decode cX6_wash 15 = .ok (.aload_n 0, 1) := by decide +kernel
theorem dX6_wash_16 : decode cX6_wash 16 = .ok (.getfield 17, 3) := by decide +kernel
theorem dX6_wash_19 : decode cX6_wash 19 = .ok (.bipush 74, 2) := by decide +kernel
theorem dX6_wash_21 : decode cX6_wash 21 = .ok (.aload_n 0, 1) := by decide +kernel
theorem dX6_wash_22 : decode cX6_wash 22 = .ok (.iload_n 1, 1) := by decide +kernel
theorem dX6_wash_23 : decode cX6_wash 23 = .ok (.iload_n 2, 1) := by decide +kernel
theorem dX6_wash_24 : decode cX6_wash 24 = .ok (.invokevirtual 261, 3) := by decide +kernel
theorem dX6_wash_27 : decode cX6_wash 27 = .ok (.iadd, 1) := by decide +kernel
theorem dX6_wash_28 : decode cX6_wash 28 = .ok (.iaload, 1) := by decide +kernel
theorem dX6_wash_29 : decode cX6_wash 29 = .ok (.ifCond .ne 7, 3) := by decide +kernel
theorem dX6_wash_32 : decode cX6_wash 32 = .ok (.iconst 1, 1) := by decide +kernel
theorem dX6_wash_33 : decode cX6_wash 33 = .ok (.goto 4, 3) := by decide +kernel
theorem dX6_wash_36 : decode cX6_wash 36 = .ok (.iconst 0, 1) := by decide +kernel
theorem dX6_wash_37 : decode cX6_wash 37 = .ok (.iconst 2, 1) := by decide +kernel
theorem dX6_wash_38 : decode cX6_wash 38 = .ok (.invokevirtual 173, 3) := by decide +kernel
theorem dX6_wash_41 : decode cX6_wash 41 = .ok (.ifCond .eq 5, 3) := by decide +kernel
theorem dX6_wash_44 : decode cX6_wash 44 = .ok (.iconst 0, 1) := by decide +kernel
theorem dX6_wash_45 : decode cX6_wash 45 = .ok (.ireturn, 1) := by decide +kernel
theorem dX6_wash_46 : decode cX6_wash 46 = .ok (.aload_n 0, 1) := by decide +kernel
theorem dX6_wash_47 : decode cX6_wash 47 = .ok (.invokevirtual 182, 3) := by decide +kernel
theorem dX6_wash_50 : decode cX6_wash 50 = .ok (.aload_n 0, 1) := by decide +kernel
theorem dX6_wash_51 : decode cX6_wash 51 = .ok (.invokevirtual 270, 3) := by decide +kernel
theorem dX6_wash_54 : decode cX6_wash 54 = .ok (.aload_n 0, 1) := by decide +kernel
theorem dX6_wash_55 : decode cX6_wash 55 = .ok (.aload_n 0, 1) := by decide +kernel
theorem dX6_wash_56 : decode cX6_wash 56 = .ok (.iload_n 1, 1) := by decide +kernel
theorem dX6_wash_57 : decode cX6_wash 57 = .ok (.iload_n 2, 1) := by decide +kernel
theorem dX6_wash_58 : decode cX6_wash 58 = .ok (.invokevirtual 261, 3) := by decide +kernel
theorem dX6_wash_61 : decode cX6_wash 61 = .ok (.invokevirtual 273, 3) := by decide +kernel
theorem dX6_wash_64 : decode cX6_wash 64 = .ok (.istore_n 3, 1) := by decide +kernel
theorem dX6_wash_65 : decode cX6_wash 65 = .ok (.iconst 0, 1) := by decide +kernel
theorem dX6_wash_66 : decode cX6_wash 66 = .ok (.istore 4, 2) := by decide +kernel
theorem dX6_wash_68 : decode cX6_wash 68 = .ok (.iload 4, 2) := by decide +kernel
theorem dX6_wash_70 : decode cX6_wash 70 = .ok (.aload_n 0, 1) := by decide +kernel
theorem dX6_wash_71 : decode cX6_wash 71 = .ok (.invokevirtual 205, 3) := by decide +kernel
theorem dX6_wash_74 : decode cX6_wash 74 = .ok (.if_icmp .ge 27, 3) := by decide +kernel
theorem dX6_wash_77 : decode cX6_wash 77 = .ok (.aload_n 0, 1) := by decide +kernel
theorem dX6_wash_78 : decode cX6_wash 78 = .ok (.getfield 40, 3) := by decide +kernel
theorem dX6_wash_81 : decode cX6_wash 81 = .ok (.iload 4, 2) := by decide +kernel
theorem dX6_wash_83 : decode cX6_wash 83 = .ok (.baload, 1) := by decide +kernel
theorem dX6_wash_84 : decode cX6_wash 84 = .ok (.ifCond .eq 11, 3) := by decide +kernel
theorem dX6_wash_87 : decode cX6_wash 87 = .ok (.aload_n 0, 1) := by decide +kernel
theorem dX6_wash_88 : decode cX6_wash 88 = .ok (.iload 4, 2) := by decide +kernel
theorem dX6_wash_90 : decode cX6_wash 90 = .ok (.iconst 0, 1) := by decide +kernel
theorem dX6_wash_91 : decode cX6_wash 91 = .ok (.iconst 0, 1) := by decide +kernel
theorem dX6_wash_92 : decode cX6_wash 92 = .ok (.invokevirtual 295, 3) := by decide +kernel
theorem dX6_wash_95 : decode cX6_wash 95 = .ok (.iinc 4 1, 3) := by decide +kernel
theorem dX6_wash_98 : decode cX6_wash 98 = .ok (.goto (-30), 3) := by decide +kernel
theorem dX6_wash_101 : decode cX6_wash 101 = .ok (.iload_n 3, 1) := by decide +kernel
theorem dX6_wash_102 : decode cX6_wash 102 = .ok (.ireturn, 1) := by decide +kernel
theorem dX6_undo_0 : decode cX6_undo 0 = .ok (.aload_n 0, 1) := by decide +kernel
theorem dX6_undo_1 : decode cX6_undo 1 = .ok (.iconst 0, 1) := by decide +kernel
theorem dX6_undo_2 : decode cX6_undo 2 = .ok (.putfield 51, 3) := by decide +kernel
theorem dX6_undo_5 : decode cX6_undo 5 = .ok (.aload_n 0, 1) := by decide +kernel
theorem dX6_undo_6 : decode cX6_undo 6 = .ok (.getfield 292, 3) := by decide +kernel
theorem dX6_undo_9 : decode cX6_undo 9 = .ok (.ifCond .ne 5, 3) := by decide +kernel
theorem dX6_undo_12 : decode cX6_undo 12 = .ok (.iconst (-1), 1) := by decide +kernel
theorem dX6_undo_13 : decode cX6_undo 13 = .ok (.ireturn, 1) := by decide +kernel
theorem dX6_undo_14 : decode cX6_undo 14 = .ok (.aload_n 0, 1) := by decide +kernel
theorem dX6_undo_15 : decode cX6_undo 15 = .ok (.dup, 1) := by decide +kernel
theorem dX6_undo_16 : decode cX6_undo 16 = .ok (.getfield 292, 3) := by decide +kernel
theorem dX6_undo_19 : decode cX6_undo 19 = .ok (.iconst 1, 1) := by decide +kernel
theorem dX6_undo_20 : decode cX6_undo 20 = .ok (.isub, 1) := by decide +kernel
theorem dX6_undo_21 : decode cX6_undo 21 = .ok (.putfield 292, 3) := by decide +kernel
theorem dX6_undo_24 : decode cX6_undo 24 = .ok (.aload_n 0, 1) := by decide +kernel
theorem dX6_undo_25 : decode cX6_undo 25 = .ok (.getfield 28, 3) := by decide +kernel
theorem dX6_undo_28 : decode cX6_undo 28 = .ok (.aload_n 0, 1) := by decide +kernel
theorem dX6_undo_29 : decode cX6_undo 29 = .ok (.getfield 292, 3) := by decide +kernel
theorem dX6_undo_32 : decode cX6_undo 32 = .ok (.aaload, 1) := by decide +kernel
theorem dX6_undo_33 : decode cX6_undo 33 = .ok (.aload_n 0, 1) := by decide +kernel
theorem dX6_undo_34 : decode cX6_undo 34 = .ok (.getfield 17, 3) := by decide +kernel
theorem dX6_undo_37 : decode cX6_undo 37 = .ok (.invokestatic 185, 3) := by decide +kernel
theorem dX6_undo_40 : decode cX6_undo 40 = .ok (.aload_n 0, 1) := by decide +kernel
theorem dX6_undo_41 : decode cX6_undo 41 = .ok (.getfield 292, 3) := by decide +kernel
theorem dX6_undo_44 : decode cX6_undo 44 = .ok (.ireturn, 1) := by decide +kernel
theorem dX6_checksum_0 : decode cX6_checksum 0 = .ok (.aload_n 0, 1) := by decide +kernel
theorem dX6_checksum_1 : decode cX6_checksum 1 = .ok (.iconst 0, 1) := by decide +kernel
theorem dX6_checksum_2 : decode cX6_checksum 2 = .ok (.putfield 51, 3) := by decide +kernel
theorem dX6_checksum_5 : decode cX6_checksum 5 = .ok (.lconst 0, 1) := by decide +kernel
theorem dX6_checksum_6 : decode cX6_checksum 6 = .ok (.lstore_n 1, 1) := by decide +kernel
theorem dX6_checksum_7 : decode cX6_checksum 7 = .ok (.iconst 0, 1) := by decide +kernel
theorem dX6_checksum_8 : decode cX6_checksum 8 = .ok (.istore_n 3, 1) := by decide +kernel
theorem dX6_checksum_9 : decode cX6_checksum 9 = .ok (.iload_n 3, 1) := by decide +kernel
theorem dX6_checksum_10 : decode cX6_checksum 10 = .ok (.bipush 13, 2) := by decide +kernel
theorem dX6_checksum_12 : decode cX6_checksum 12 = .ok (.if_icmp .ge 22, 3) := by decide +kernel
theorem dX6_checksum_15 : decode cX6_checksum 15 = .ok (.ldc2_w 303, 3) := by decide +kernel
theorem dX6_checksum_18 : decode cX6_checksum 18 = .ok (.lload_n 1, 1) := by decide +kernel
theorem dX6_checksum_19 : decode cX6_checksum 19 = .ok (.lmul, 1) := by decide +kernel
theorem dX6_checksum_20 : decode cX6_checksum 20 = .ok (.aload_n 0, 1) := by decide +kernel
theorem dX6_checksum_21 : decode cX6_checksum 21 = .ok (.iload_n 3, 1) := by decide +kernel
theorem dX6_checksum_22 : decode cX6_checksum 22 = .ok (.invokevirtual 255, 3) := by decide +kernel
theorem dX6_checksum_25 : decode cX6_checksum 25 = .ok (.i2l, 1) := by decide +kernel
theorem dX6_checksum_26 : decode cX6_checksum 26 = .ok (.ladd, 1) := by decide +kernel
theorem dX6_checksum_27 : decode cX6_checksum 27 = .ok (.lstore_n 1, 1) := by decide +kernel
theorem dX6_checksum_28 : decode cX6_checksum 28 = .ok (.iinc 3 1, 3) := by decide +kernel
theorem dX6_checksum_31 : decode cX6_checksum 31 = .ok (.goto (-22), 3) := by decide +kernel
theorem dX6_checksum_34 : decode cX6_checksum 34 = .ok (.iconst 0, 1) := by decide +kernel
theorem dX6_checksum_35 : decode cX6_checksum 35 = .ok (.istore_n 3, 1) := by decide +kernel
theorem dX6_checksum_36 : decode cX6_checksum 36 = .ok (.iload_n 3, 1) := by decide +kernel
theorem dX6_checksum_37 : decode cX6_checksum 37 = .ok (.aload_n 0, 1) := by decide +kernel
theorem dX6_checksum_38 : decode cX6_checksum 38 = .ok (.invokevirtual 205, 3) := by decide +kernel
theorem dX6_checksum_41 : decode cX6_checksum 41 = .ok (.if_icmp .ge 47, 3) := by decide +kernel
theorem dX6_checksum_44 : decode cX6_checksum 44 = .ok (.iconst 0, 1) := by decide +kernel
theorem dX6_checksum_45 : decode cX6_checksum 45 = .ok (.istore 4, 2) := by decide +kernel
theorem dX6_checksum_47 : decode cX6_checksum 47 = .ok (.iload 4, 2) := by decide +kernel
theorem dX6_checksum_49 : decode cX6_checksum 49 = .ok (.iconst 4, 1) := by decide +kernel
theorem dX6_checksum_50 : decode cX6_checksum 50 = .ok (.if_icmp .ge 32, 3) := by decide +kernel
theorem dX6_checksum_53 : decode cX6_checksum 53 = .ok (.aload_n 0, 1) := by decide +kernel
theorem dX6_checksum_54 : decode cX6_checksum 54 = .ok (.iload_n 3, 1) := by decide +kernel
theorem dX6_checksum_55 : decode cX6_checksum 55 = .ok (.invokevirtual 208, 3) := by decide +kernel
theorem dX6_checksum_58 : decode cX6_checksum 58 = .ok (.ifCond .eq 24, 3) := by decide +kernel
theorem dX6_checksum_61 : decode cX6_checksum 61 = .ok (.ldc2_w 303, 3) := by decide +kernel
theorem dX6_checksum_64 : decode cX6_checksum 64 = .ok (.lload_n 1, 1) := by decide +kernel
theorem dX6_checksum_65 : decode cX6_checksum 65 = .ok (.lmul, 1) := by decide +kernel
theorem dX6_checksum_66 : decode cX6_checksum 66 = .ok (.aload_n 0, 1) := by decide +kernel
theorem dX6_checksum_67 : decode cX6_checksum 67 = .ok (.iload_n 3, 1) := by decide +kernel
theorem dX6_checksum_68 : decode cX6_checksum 68 = .ok (.iload 4, 2) := by decide +kernel
theorem dX6_checksum_70 : decode cX6_checksum 70 = .ok (.invokevirtual 264, 3) := by decide +kernel
theorem dX6_checksum_73 : decode cX6_checksum 73 = .ok (.i2l, 1) := by decide +kernel
theorem dX6_checksum_74 : decode cX6_checksum 74 = .ok (.ladd, 1) := by decide +kernel
theorem dX6_checksum_75 : decode cX6_checksum 75 = .ok (.lstore_n 1, 1) := by decide +kernel
theorem dX6_checksum_76 : decode cX6_checksum 76 = .ok (.iinc 4 1, 3) := by decide +kernel
theorem dX6_checksum_79 : decode cX6_checksum 79 = .ok (.goto (-32), 3) := by decide +kernel
theorem dX6_checksum_82 : decode cX6_checksum 82 = .ok (.iinc 3 1, 3) := by decide +kernel
theorem dX6_checksum_85 : decode cX6_checksum 85 = .ok (.goto (-49), 3) := by decide +kernel
theorem dX6_checksum_88 : decode cX6_checksum 88 = .ok (.lload_n 1, 1) := by decide +kernel
theorem dX6_checksum_89 : decode cX6_checksum 89 = .ok (.lreturn, 1) := by decide +kernel
