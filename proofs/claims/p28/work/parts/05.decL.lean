theorem dL_put_0 : decode cL_put 0 = .ok (.aload_n 1, 1) := by decide +kernel
theorem dL_put_1 : decode cL_put 1 = .ok (.iconst 1, 1) := by decide +kernel
theorem dL_put_2 : decode cL_put 2 = .ok (.aload_n 1, 1) := by decide +kernel
theorem dL_put_3 : decode cL_put 3 = .ok (.iconst 0, 1) := by decide +kernel
theorem dL_put_4 : decode cL_put 4 = .ok (.iaload, 1) := by decide +kernel
theorem dL_put_5 : decode cL_put 5 = .ok (.bipush 20, 2) := by decide +kernel
theorem dL_put_7 : decode cL_put 7 = .ok (.irem, 1) := by decide +kernel
theorem dL_put_8 : decode cL_put 8 = .ok (.iconst 4, 1) := by decide +kernel
theorem dL_put_9 : decode cL_put 9 = .ok (.idiv, 1) := by decide +kernel
theorem dL_put_10 : decode cL_put 10 = .ok (.iadd, 1) := by decide +kernel
theorem dL_put_11 : decode cL_put 11 = .ok (.dup2, 1) := by decide +kernel
theorem dL_put_12 : decode cL_put 12 = .ok (.iaload, 1) := by decide +kernel
theorem dL_put_13 : decode cL_put 13 = .ok (.iload_n 2, 1) := by decide +kernel
theorem dL_put_14 : decode cL_put 14 = .ok (.bipush 24, 2) := by decide +kernel
theorem dL_put_16 : decode cL_put 16 = .ok (.bipush 8, 2) := by decide +kernel
theorem dL_put_18 : decode cL_put 18 = .ok (.aload_n 1, 1) := by decide +kernel
theorem dL_put_19 : decode cL_put 19 = .ok (.iconst 0, 1) := by decide +kernel
theorem dL_put_20 : decode cL_put 20 = .ok (.iaload, 1) := by decide +kernel
theorem dL_put_21 : decode cL_put 21 = .ok (.iconst 4, 1) := by decide +kernel
theorem dL_put_22 : decode cL_put 22 = .ok (.irem, 1) := by decide +kernel
theorem dL_put_23 : decode cL_put 23 = .ok (.imul, 1) := by decide +kernel
theorem dL_put_24 : decode cL_put 24 = .ok (.isub, 1) := by decide +kernel
theorem dL_put_25 : decode cL_put 25 = .ok (.ishl, 1) := by decide +kernel
theorem dL_put_26 : decode cL_put 26 = .ok (.ior, 1) := by decide +kernel
theorem dL_put_27 : decode cL_put 27 = .ok (.iastore, 1) := by decide +kernel
theorem dL_put_28 : decode cL_put 28 = .ok (.aload_n 1, 1) := by decide +kernel
theorem dL_put_29 : decode cL_put 29 = .ok (.iconst 0, 1) := by decide +kernel
theorem dL_put_30 : decode cL_put 30 = .ok (.dup2, 1) := by decide +kernel
theorem dL_put_31 : decode cL_put 31 = .ok (.iaload, 1) := by decide +kernel
theorem dL_put_32 : decode cL_put 32 = .ok (.iconst 1, 1) := by decide +kernel
theorem dL_put_33 : decode cL_put 33 = .ok (.iadd, 1) := by decide +kernel
theorem dL_put_34 : decode cL_put 34 = .ok (.iastore, 1) := by decide +kernel
theorem dL_put_35 : decode cL_put 35 = .ok (.aload_n 1, 1) := by decide +kernel
theorem dL_put_36 : decode cL_put 36 = .ok (.iconst 0, 1) := by decide +kernel
theorem dL_put_37 : decode cL_put 37 = .ok (.iaload, 1) := by decide +kernel
theorem dL_put_38 : decode cL_put 38 = .ok (.bipush 20, 2) := by decide +kernel
theorem dL_put_40 : decode cL_put 40 = .ok (.irem, 1) := by decide +kernel
theorem dL_put_41 : decode cL_put 41 = .ok (.ifCond .ne 8, 3) := by decide +kernel
theorem dL_put_44 : decode cL_put 44 = .ok (.aload_n 0, 1) := by decide +kernel
theorem dL_put_45 : decode cL_put 45 = .ok (.aload_n 1, 1) := by decide +kernel
theorem dL_put_46 : decode cL_put 46 = .ok (.invokestatic 7, 3) := by decide +kernel
theorem dL_put_49 : decode cL_put 49 = .ok (.return_, 1) := by decide +kernel
theorem dL_flush_0 : decode cL_flush 0 = .ok (.aload_n 0, 1) := by decide +kernel
theorem dL_flush_1 : decode cL_flush 1 = .ok (.aload_n 1, 1) := by decide +kernel
theorem dL_flush_2 : decode cL_flush 2 = .ok (.iconst 1, 1) := by decide +kernel
theorem dL_flush_3 : decode cL_flush 3 = .ok (.iaload, 1) := by decide +kernel
theorem dL_flush_4 : decode cL_flush 4 = .ok (.aload_n 1, 1) := by decide +kernel
theorem dL_flush_5 : decode cL_flush 5 = .ok (.iconst 2, 1) := by decide +kernel
theorem dL_flush_6 : decode cL_flush 6 = .ok (.iaload, 1) := by decide +kernel
theorem dL_flush_7 : decode cL_flush 7 = .ok (.aload_n 1, 1) := by decide +kernel
theorem dL_flush_8 : decode cL_flush 8 = .ok (.iconst 3, 1) := by decide +kernel
theorem dL_flush_9 : decode cL_flush 9 = .ok (.iaload, 1) := by decide +kernel
theorem dL_flush_10 : decode cL_flush 10 = .ok (.aload_n 1, 1) := by decide +kernel
theorem dL_flush_11 : decode cL_flush 11 = .ok (.iconst 4, 1) := by decide +kernel
theorem dL_flush_12 : decode cL_flush 12 = .ok (.iaload, 1) := by decide +kernel
theorem dL_flush_13 : decode cL_flush 13 = .ok (.aload_n 1, 1) := by decide +kernel
theorem dL_flush_14 : decode cL_flush 14 = .ok (.iconst 5, 1) := by decide +kernel
theorem dL_flush_15 : decode cL_flush 15 = .ok (.iaload, 1) := by decide +kernel
theorem dL_flush_16 : decode cL_flush 16 = .ok (.invokevirtual 13, 3) := by decide +kernel
theorem dL_flush_19 : decode cL_flush 19 = .ok (.pop, 1) := by decide +kernel
theorem dL_flush_20 : decode cL_flush 20 = .ok (.iconst 1, 1) := by decide +kernel
theorem dL_flush_21 : decode cL_flush 21 = .ok (.istore_n 2, 1) := by decide +kernel
theorem dL_flush_22 : decode cL_flush 22 = .ok (.iload_n 2, 1) := by decide +kernel
theorem dL_flush_23 : decode cL_flush 23 = .ok (.bipush 6, 2) := by decide +kernel
theorem dL_flush_25 : decode cL_flush 25 = .ok (.if_icmp .ge 13, 3) := by decide +kernel
theorem dL_flush_28 : decode cL_flush 28 = .ok (.aload_n 1, 1) := by decide +kernel
theorem dL_flush_29 : decode cL_flush 29 = .ok (.iload_n 2, 1) := by decide +kernel
theorem dL_flush_30 : decode cL_flush 30 = .ok (.iconst 0, 1) := by decide +kernel
theorem dL_flush_31 : decode cL_flush 31 = .ok (.iastore, 1) := by decide +kernel
theorem dL_flush_32 : decode cL_flush 32 = .ok (.iinc 2 1, 3) := by decide +kernel
theorem dL_flush_35 : decode cL_flush 35 = .ok (.goto (-13), 3) := by decide +kernel
theorem dL_flush_38 : decode cL_flush 38 = .ok (.return_, 1) := by decide +kernel
theorem dL_loadText_0 : decode cL_loadText 0 = .ok (.aload_n 1, 1) := by decide +kernel
theorem dL_loadText_1 : decode cL_loadText 1 = .ok (.iconst 0, 1) := by decide +kernel
theorem dL_loadText_2 : decode cL_loadText 2 = .ok (.iaload, 1) := by decide +kernel
theorem dL_loadText_3 : decode cL_loadText 3 = .ok (.istore_n 2, 1) := by decide +kernel
theorem dL_loadText_4 : decode cL_loadText 4 = .ok (.iload_n 2, 1) := by decide +kernel
theorem dL_loadText_5 : decode cL_loadText 5 = .ok (.bipush 20, 2) := by decide +kernel
theorem dL_loadText_7 : decode cL_loadText 7 = .ok (.irem, 1) := by decide +kernel
theorem dL_loadText_8 : decode cL_loadText 8 = .ok (.ifCond .le 8, 3) := by decide +kernel
theorem dL_loadText_11 : decode cL_loadText 11 = .ok (.aload_n 0, 1) := by decide +kernel
theorem dL_loadText_12 : decode cL_loadText 12 = .ok (.aload_n 1, 1) := by decide +kernel
theorem dL_loadText_13 : decode cL_loadText 13 = .ok (.invokestatic 7, 3) := by decide +kernel
theorem dL_loadText_16 : decode cL_loadText 16 = .ok (.aload_n 1, 1) := by decide +kernel
theorem dL_loadText_17 : decode cL_loadText 17 = .ok (.iconst 0, 1) := by decide +kernel
theorem dL_loadText_18 : decode cL_loadText 18 = .ok (.iconst 0, 1) := by decide +kernel
theorem dL_loadText_19 : decode cL_loadText 19 = .ok (.iastore, 1) := by decide +kernel
theorem dL_loadText_20 : decode cL_loadText 20 = .ok (.aload_n 0, 1) := by decide +kernel
theorem dL_loadText_21 : decode cL_loadText 21 = .ok (.iload_n 2, 1) := by decide +kernel
theorem dL_loadText_22 : decode cL_loadText 22 = .ok (.invokestatic 19, 3) := by decide +kernel
theorem dL_loadText_25 : decode cL_loadText 25 = .ok (.ireturn, 1) := by decide +kernel
theorem dL_write_0 : decode cL_write 0 = .ok (.iconst 0, 1) := by decide +kernel
theorem dL_write_1 : decode cL_write 1 = .ok (.istore_n 3, 1) := by decide +kernel
theorem dL_write_2 : decode cL_write 2 = .ok (.iload_n 3, 1) := by decide +kernel
theorem dL_write_3 : decode cL_write 3 = .ok (.aload_n 2, 1) := by decide +kernel
theorem dL_write_4 : decode cL_write 4 = .ok (.invokevirtual 23, 3) := by decide +kernel
theorem dL_write_7 : decode cL_write 7 = .ok (.if_icmp .ge 19, 3) := by decide +kernel
theorem dL_write_10 : decode cL_write 10 = .ok (.aload_n 0, 1) := by decide +kernel
theorem dL_write_11 : decode cL_write 11 = .ok (.aload_n 1, 1) := by decide +kernel
theorem dL_write_12 : decode cL_write 12 = .ok (.aload_n 2, 1) := by decide +kernel
theorem dL_write_13 : decode cL_write 13 = .ok (.iload_n 3, 1) := by decide +kernel
theorem dL_write_14 : decode cL_write 14 = .ok (.invokevirtual 29, 3) := by decide +kernel
theorem dL_write_17 : decode cL_write 17 = .ok (.invokestatic 33, 3) := by decide +kernel
theorem dL_write_20 : decode cL_write 20 = .ok (.iinc 3 1, 3) := by decide +kernel
theorem dL_write_23 : decode cL_write 23 = .ok (.goto (-21), 3) := by decide +kernel
theorem dL_write_26 : decode cL_write 26 = .ok (.return_, 1) := by decide +kernel
theorem dL_writeNumber_0 : decode cL_writeNumber 0 = .ok (.iconst 1, 1) := by decide +kernel
theorem dL_writeNumber_1 : decode cL_writeNumber 1 = .ok (.istore_n 3, 1) := by decide +kernel
theorem dL_writeNumber_2 : decode cL_writeNumber 2 = .ok (.iload_n 3, 1) := by decide +kernel
theorem dL_writeNumber_3 : decode cL_writeNumber 3 = .ok (.iload_n 2, 1) := by decide +kernel
theorem dL_writeNumber_4 : decode cL_writeNumber 4 = .ok (.bipush 10, 2) := by decide +kernel
theorem dL_writeNumber_6 : decode cL_writeNumber 6 = .ok (.idiv, 1) := by decide +kernel
theorem dL_writeNumber_7 : decode cL_writeNumber 7 = .ok (.if_icmp .gt 11, 3) := by decide +kernel
theorem dL_writeNumber_10 : decode cL_writeNumber 10 = .ok (.iload_n 3, 1) := by decide +kernel
theorem dL_writeNumber_11 : decode cL_writeNumber 11 = .ok (.bipush 10, 2) := by decide +kernel
theorem dL_writeNumber_13 : decode cL_writeNumber 13 = .ok (.imul, 1) := by decide +kernel
theorem dL_writeNumber_14 : decode cL_writeNumber 14 = .ok (.istore_n 3, 1) := by decide +kernel
theorem dL_writeNumber_15 : decode cL_writeNumber 15 = .ok (.goto (-13), 3) := by decide +kernel
theorem dL_writeNumber_18 : decode cL_writeNumber 18 = .ok (.iload_n 3, 1) := by decide +kernel
theorem dL_writeNumber_19 : decode cL_writeNumber 19 = .ok (.ifCond .le 25, 3) := by decide +kernel
theorem dL_writeNumber_22 : decode cL_writeNumber 22 = .ok (.aload_n 0, 1) := by decide +kernel
theorem dL_writeNumber_23 : decode cL_writeNumber 23 = .ok (.aload_n 1, 1) := by decide +kernel
theorem dL_writeNumber_24 : decode cL_writeNumber 24 = .ok (.bipush 48, 2) := by decide +kernel
theorem dL_writeNumber_26 : decode cL_writeNumber 26 = .ok (.iload_n 2, 1) := by decide +kernel
theorem dL_writeNumber_27 : decode cL_writeNumber 27 = .ok (.iload_n 3, 1) := by decide +kernel
theorem dL_writeNumber_28 : decode cL_writeNumber 28 = .ok (.idiv, 1) := by decide +kernel
theorem dL_writeNumber_29 : decode cL_writeNumber 29 = .ok (.bipush 10, 2) := by decide +kernel
theorem dL_writeNumber_31 : decode cL_writeNumber 31 = .ok (.irem, 1) := by decide +kernel
theorem dL_writeNumber_32 : decode cL_writeNumber 32 = .ok (.iadd, 1) := by decide +kernel
theorem dL_writeNumber_33 : decode cL_writeNumber 33 = .ok (.invokestatic 33, 3) := by decide +kernel
theorem dL_writeNumber_36 : decode cL_writeNumber 36 = .ok (.iload_n 3, 1) := by decide +kernel
theorem dL_writeNumber_37 : decode cL_writeNumber 37 = .ok (.bipush 10, 2) := by decide +kernel
theorem dL_writeNumber_39 : decode cL_writeNumber 39 = .ok (.idiv, 1) := by decide +kernel
theorem dL_writeNumber_40 : decode cL_writeNumber 40 = .ok (.istore_n 3, 1) := by decide +kernel
theorem dL_writeNumber_41 : decode cL_writeNumber 41 = .ok (.goto (-23), 3) := by decide +kernel
theorem dL_writeNumber_44 : decode cL_writeNumber 44 = .ok (.return_, 1) := by decide +kernel
theorem dL_load_0 : decode cL_load 0 = .ok (.aload_n 0, 1) := by decide +kernel
theorem dL_load_1 : decode cL_load 1 = .ok (.iload_n 1, 1) := by decide +kernel
theorem dL_load_2 : decode cL_load 2 = .ok (.invokevirtual 37, 3) := by decide +kernel
theorem dL_load_5 : decode cL_load 5 = .ok (.ireturn, 1) := by decide +kernel
theorem dL_load_6 : decode cL_load 6 = .ok (.astore_n 2, 1) := by decide +kernel
theorem dL_load_7 : decode cL_load 7 = .ok (.ldc 42, 2) := by decide +kernel
theorem dL_load_9 : decode cL_load 9 = .ok (.ireturn, 1) := by decide +kernel
theorem dL_state_0 : decode cL_state 0 = .ok (.aload_n 0, 1) := by decide +kernel
theorem dL_state_1 : decode cL_state 1 = .ok (.iload_n 1, 1) := by decide +kernel
theorem dL_state_2 : decode cL_state 2 = .ok (.invokevirtual 43, 3) := by decide +kernel
theorem dL_state_5 : decode cL_state 5 = .ok (.ireturn, 1) := by decide +kernel
theorem dL_state_6 : decode cL_state 6 = .ok (.astore_n 2, 1) := by decide +kernel
theorem dL_state_7 : decode cL_state 7 = .ok (.ldc 42, 2) := by decide +kernel
theorem dL_state_9 : decode cL_state 9 = .ok (.ireturn, 1) := by decide +kernel
theorem dL_cell_0 : decode cL_cell 0 = .ok (.aload_n 0, 1) := by decide +kernel
theorem dL_cell_1 : decode cL_cell 1 = .ok (.iload_n 1, 1) := by decide +kernel
theorem dL_cell_2 : decode cL_cell 2 = .ok (.iload_n 2, 1) := by decide +kernel
theorem dL_cell_3 : decode cL_cell 3 = .ok (.iload_n 3, 1) := by decide +kernel
theorem dL_cell_4 : decode cL_cell 4 = .ok (.invokevirtual 46, 3) := by decide +kernel
theorem dL_cell_7 : decode cL_cell 7 = .ok (.ireturn, 1) := by decide +kernel
theorem dL_cell_8 : decode cL_cell 8 = .ok (.astore 4, 2) := by decide +kernel
theorem dL_cell_10 : decode cL_cell 10 = .ok (.ldc 52, 2) := by decide +kernel
theorem dL_cell_12 : decode cL_cell 12 = .ok (.ireturn, 1) := by decide +kernel
theorem dL_cell_13 : decode cL_cell 13 = .ok (.astore 4, 2) := by decide +kernel
theorem dL_cell_15 : decode cL_cell 15 = .ok (.ldc 42, 2) := by decide +kernel
theorem dL_cell_17 : decode cL_cell 17 = .ok (.ireturn, 1) := by decide +kernel
theorem dL_mix_0 : decode cL_mix 0 = .ok (.aload_n 0, 1) := by decide +kernel
theorem dL_mix_1 : decode cL_mix 1 = .ok (.iload_n 1, 1) := by decide +kernel
theorem dL_mix_2 : decode cL_mix 2 = .ok (.iload_n 2, 1) := by decide +kernel
theorem dL_mix_3 : decode cL_mix 3 = .ok (.invokevirtual 53, 3) := by decide +kernel
theorem dL_mix_6 : decode cL_mix 6 = .ok (.ireturn, 1) := by decide +kernel
theorem dL_mix_7 : decode cL_mix 7 = .ok (.astore_n 3, 1) := by decide +kernel
theorem dL_mix_8 : decode cL_mix 8 = .ok (.ldc 42, 2) := by decide +kernel
theorem dL_mix_10 : decode cL_mix 10 = .ok (.ireturn, 1) := by decide +kernel
theorem dL_count_0 : decode cL_count 0 = .ok (.aload_n 0, 1) := by decide +kernel
theorem dL_count_1 : decode cL_count 1 = .ok (.iload_n 1, 1) := by decide +kernel
theorem dL_count_2 : decode cL_count 2 = .ok (.invokevirtual 57, 3) := by decide +kernel
theorem dL_count_5 : decode cL_count 5 = .ok (.ireturn, 1) := by decide +kernel
theorem dL_count_6 : decode cL_count 6 = .ok (.astore_n 2, 1) := by decide +kernel
theorem dL_count_7 : decode cL_count 7 = .ok (.ldc 42, 2) := by decide +kernel
theorem dL_count_9 : decode cL_count 9 = .ok (.ireturn, 1) := by decide +kernel
theorem dL_region_0 : decode cL_region 0 = .ok (.aload_n 0, 1) := by decide +kernel
theorem dL_region_1 : decode cL_region 1 = .ok (.iload_n 1, 1) := by decide +kernel
theorem dL_region_2 : decode cL_region 2 = .ok (.iload_n 2, 1) := by decide +kernel
theorem dL_region_3 : decode cL_region 3 = .ok (.invokevirtual 60, 3) := by decide +kernel
theorem dL_region_6 : decode cL_region 6 = .ok (.ireturn, 1) := by decide +kernel
theorem dL_region_7 : decode cL_region 7 = .ok (.astore_n 3, 1) := by decide +kernel
theorem dL_region_8 : decode cL_region 8 = .ok (.ldc 52, 2) := by decide +kernel
theorem dL_region_10 : decode cL_region 10 = .ok (.ireturn, 1) := by decide +kernel
theorem dL_regions_0 : decode cL_regions 0 = .ok (.aload_n 0, 1) := by decide +kernel
theorem dL_regions_1 : decode cL_regions 1 = .ok (.iload_n 1, 1) := by decide +kernel
theorem dL_regions_2 : decode cL_regions 2 = .ok (.invokevirtual 63, 3) := by decide +kernel
theorem dL_regions_5 : decode cL_regions 5 = .ok (.ireturn, 1) := by decide +kernel
theorem dL_regions_6 : decode cL_regions 6 = .ok (.astore_n 2, 1) := by decide +kernel
theorem dL_regions_7 : decode cL_regions 7 = .ok (.ldc 42, 2) := by decide +kernel
theorem dL_regions_9 : decode cL_regions 9 = .ok (.ireturn, 1) := by decide +kernel
theorem dL_bleeds_0 : decode cL_bleeds 0 = .ok (.aload_n 0, 1) := by decide +kernel
theorem dL_bleeds_1 : decode cL_bleeds 1 = .ok (.iload_n 1, 1) := by decide +kernel
theorem dL_bleeds_2 : decode cL_bleeds 2 = .ok (.iload_n 2, 1) := by decide +kernel
theorem dL_bleeds_3 : decode cL_bleeds 3 = .ok (.invokevirtual 66, 3) := by decide +kernel
theorem dL_bleeds_6 : decode cL_bleeds 6 = .ok (.ireturn, 1) := by decide +kernel
theorem dL_bleeds_7 : decode cL_bleeds 7 = .ok (.astore_n 3, 1) := by decide +kernel
theorem dL_bleeds_8 : decode cL_bleeds 8 = .ok (.ldc 52, 2) := by decide +kernel
theorem dL_bleeds_10 : decode cL_bleeds 10 = .ok (.ireturn, 1) := by decide +kernel
theorem dL_foretold_0 : decode cL_foretold 0 = .ok (.aload_n 0, 1) := by decide +kernel
theorem dL_foretold_1 : decode cL_foretold 1 = .ok (.iload_n 1, 1) := by decide +kernel
theorem dL_foretold_2 : decode cL_foretold 2 = .ok (.iload_n 2, 1) := by decide +kernel
theorem dL_foretold_3 : decode cL_foretold 3 = .ok (.invokevirtual 69, 3) := by decide +kernel
theorem dL_foretold_6 : decode cL_foretold 6 = .ok (.ireturn, 1) := by decide +kernel
theorem dL_foretold_7 : decode cL_foretold 7 = .ok (.astore_n 3, 1) := by decide +kernel
theorem dL_foretold_8 : decode cL_foretold 8 = .ok (.ldc 42, 2) := by decide +kernel
theorem dL_foretold_10 : decode cL_foretold 10 = .ok (.ireturn, 1) := by decide +kernel
theorem dL_evens_0 : decode cL_evens 0 = .ok (.aload_n 0, 1) := by decide +kernel
theorem dL_evens_1 : decode cL_evens 1 = .ok (.iload_n 1, 1) := by decide +kernel
theorem dL_evens_2 : decode cL_evens 2 = .ok (.invokevirtual 72, 3) := by decide +kernel
theorem dL_evens_5 : decode cL_evens 5 = .ok (.ireturn, 1) := by decide +kernel
theorem dL_evens_6 : decode cL_evens 6 = .ok (.astore_n 2, 1) := by decide +kernel
theorem dL_evens_7 : decode cL_evens 7 = .ok (.ldc 42, 2) := by decide +kernel
theorem dL_evens_9 : decode cL_evens 9 = .ok (.ireturn, 1) := by decide +kernel
theorem dL_pattern_0 : decode cL_pattern 0 = .ok (.aload_n 0, 1) := by decide +kernel
theorem dL_pattern_1 : decode cL_pattern 1 = .ok (.iload_n 1, 1) := by decide +kernel
theorem dL_pattern_2 : decode cL_pattern 2 = .ok (.iload_n 2, 1) := by decide +kernel
theorem dL_pattern_3 : decode cL_pattern 3 = .ok (.invokevirtual 75, 3) := by decide +kernel
theorem dL_pattern_6 : decode cL_pattern 6 = .ok (.ireturn, 1) := by decide +kernel
theorem dL_pattern_7 : decode cL_pattern 7 = .ok (.astore_n 3, 1) := by decide +kernel
theorem dL_pattern_8 : decode cL_pattern 8 = .ok (.ldc 52, 2) := by decide +kernel
theorem dL_pattern_10 : decode cL_pattern 10 = .ok (.ireturn, 1) := by decide +kernel
theorem dL_pattern_11 : decode cL_pattern 11 = .ok (.astore_n 3, 1) := by decide +kernel
theorem dL_pattern_12 : decode cL_pattern 12 = .ok (.ldc 42, 2) := by decide +kernel
theorem dL_pattern_14 : decode cL_pattern 14 = .ok (.ireturn, 1) := by decide +kernel
theorem dL_pass_0 : decode cL_pass 0 = .ok (.aload_n 0, 1) := by decide +kernel
theorem dL_pass_1 : decode cL_pass 1 = .ok (.iload_n 1, 1) := by decide +kernel
theorem dL_pass_2 : decode cL_pass 2 = .ok (.invokevirtual 78, 3) := by decide +kernel
theorem dL_pass_5 : decode cL_pass 5 = .ok (.ireturn, 1) := by decide +kernel
theorem dL_pass_6 : decode cL_pass 6 = .ok (.astore_n 2, 1) := by decide +kernel
theorem dL_pass_7 : decode cL_pass 7 = .ok (.ldc 42, 2) := by decide +kernel
theorem dL_pass_9 : decode cL_pass 9 = .ok (.ireturn, 1) := by decide +kernel
theorem dL_paint_0 : decode cL_paint 0 = .ok (.aload_n 0, 1) := by decide +kernel
theorem dL_paint_1 : decode cL_paint 1 = .ok (.iload_n 1, 1) := by decide +kernel
theorem dL_paint_2 : decode cL_paint 2 = .ok (.iload_n 2, 1) := by decide +kernel
theorem dL_paint_3 : decode cL_paint 3 = .ok (.iload_n 3, 1) := by decide +kernel
theorem dL_paint_4 : decode cL_paint 4 = .ok (.iload 4, 2) := by decide +kernel
theorem dL_paint_6 : decode cL_paint 6 = .ok (.iload 5, 2) := by decide +kernel
theorem dL_paint_8 : decode cL_paint 8 = .ok (.invokevirtual 81, 3) := by decide +kernel
theorem dL_paint_11 : decode cL_paint 11 = .ok (.ireturn, 1) := by decide +kernel
theorem dL_paint_12 : decode cL_paint 12 = .ok (.astore 6, 2) := by decide +kernel
theorem dL_paint_14 : decode cL_paint 14 = .ok (.ldc 52, 2) := by decide +kernel
theorem dL_paint_16 : decode cL_paint 16 = .ok (.ireturn, 1) := by decide +kernel
theorem dL_paint_17 : decode cL_paint 17 = .ok (.astore 6, 2) := by decide +kernel
theorem dL_paint_19 : decode cL_paint 19 = .ok (.ldc 42, 2) := by decide +kernel
theorem dL_paint_21 : decode cL_paint 21 = .ok (.ireturn, 1) := by decide +kernel
theorem dL_stroke_0 : decode cL_stroke 0 = .ok (.aload_n 0, 1) := by decide +kernel
theorem dL_stroke_1 : decode cL_stroke 1 = .ok (.iload_n 1, 1) := by decide +kernel
theorem dL_stroke_2 : decode cL_stroke 2 = .ok (.iload_n 2, 1) := by decide +kernel
theorem dL_stroke_3 : decode cL_stroke 3 = .ok (.iload_n 3, 1) := by decide +kernel
theorem dL_stroke_4 : decode cL_stroke 4 = .ok (.iload 4, 2) := by decide +kernel
theorem dL_stroke_6 : decode cL_stroke 6 = .ok (.iload 5, 2) := by decide +kernel
theorem dL_stroke_8 : decode cL_stroke 8 = .ok (.invokevirtual 85, 3) := by decide +kernel
theorem dL_stroke_11 : decode cL_stroke 11 = .ok (.ireturn, 1) := by decide +kernel
theorem dL_stroke_12 : decode cL_stroke 12 = .ok (.astore 6, 2) := by decide +kernel
theorem dL_stroke_14 : decode cL_stroke 14 = .ok (.ldc 52, 2) := by decide +kernel
theorem dL_stroke_16 : decode cL_stroke 16 = .ok (.ireturn, 1) := by decide +kernel
theorem dL_stroke_17 : decode cL_stroke 17 = .ok (.astore 6, 2) := by decide +kernel
theorem dL_stroke_19 : decode cL_stroke 19 = .ok (.ldc 42, 2) := by decide +kernel
theorem dL_stroke_21 : decode cL_stroke 21 = .ok (.ireturn, 1) := by decide +kernel
theorem dL_stamp_0 : decode cL_stamp 0 = .ok (.aload_n 0, 1) := by decide +kernel
theorem dL_stamp_1 : decode cL_stamp 1 = .ok (.iload_n 1, 1) := by decide +kernel
theorem dL_stamp_2 : decode cL_stamp 2 = .ok (.iload_n 2, 1) := by decide +kernel
theorem dL_stamp_3 : decode cL_stamp 3 = .ok (.iload_n 3, 1) := by decide +kernel
theorem dL_stamp_4 : decode cL_stamp 4 = .ok (.iload 4, 2) := by decide +kernel
theorem dL_stamp_6 : decode cL_stamp 6 = .ok (.invokevirtual 88, 3) := by decide +kernel
theorem dL_stamp_9 : decode cL_stamp 9 = .ok (.ireturn, 1) := by decide +kernel
theorem dL_stamp_10 : decode cL_stamp 10 = .ok (.astore 5, 2) := by decide +kernel
theorem dL_stamp_12 : decode cL_stamp 12 = .ok (.ldc 52, 2) := by decide +kernel
theorem dL_stamp_14 : decode cL_stamp 14 = .ok (.ireturn, 1) := by decide +kernel
theorem dL_spar_0 : decode cL_spar 0 = .ok (.aload_n 0, 1) := by decide +kernel
theorem dL_spar_1 : decode cL_spar 1 = .ok (.iload_n 1, 1) := by decide +kernel
theorem dL_spar_2 : decode cL_spar 2 = .ok (.iload_n 2, 1) := by decide +kernel
theorem dL_spar_3 : decode cL_spar 3 = .ok (.iload_n 3, 1) := by decide +kernel
theorem dL_spar_4 : decode cL_spar 4 = .ok (.iload 4, 2) := by decide +kernel
theorem dL_spar_6 : decode cL_spar 6 = .ok (.invokevirtual 92, 3) := by decide +kernel
theorem dL_spar_9 : decode cL_spar 9 = .ok (.ireturn, 1) := by decide +kernel
theorem dL_spar_10 : decode cL_spar 10 = .ok (.astore 5, 2) := by decide +kernel
theorem dL_spar_12 : decode cL_spar 12 = .ok (.ldc 52, 2) := by decide +kernel
theorem dL_spar_14 : decode cL_spar 14 = .ok (.ireturn, 1) := by decide +kernel
theorem dL_spar_15 : decode cL_spar 15 = .ok (.astore 5, 2) := by decide +kernel
theorem dL_spar_17 : decode cL_spar 17 = .ok (.ldc 42, 2) := by decide +kernel
theorem dL_spar_19 : decode cL_spar 19 = .ok (.ireturn, 1) := by decide +kernel
theorem dL_strip_0 : decode cL_strip 0 = .ok (.aload_n 0, 1) := by decide +kernel
theorem dL_strip_1 : decode cL_strip 1 = .ok (.iload_n 1, 1) := by decide +kernel
theorem dL_strip_2 : decode cL_strip 2 = .ok (.iload_n 2, 1) := by decide +kernel
theorem dL_strip_3 : decode cL_strip 3 = .ok (.invokevirtual 96, 3) := by decide +kernel
theorem dL_strip_6 : decode cL_strip 6 = .ok (.ireturn, 1) := by decide +kernel
theorem dL_strip_7 : decode cL_strip 7 = .ok (.astore_n 3, 1) := by decide +kernel
theorem dL_strip_8 : decode cL_strip 8 = .ok (.ldc 52, 2) := by decide +kernel
theorem dL_strip_10 : decode cL_strip 10 = .ok (.ireturn, 1) := by decide +kernel
theorem dL_strip_11 : decode cL_strip 11 = .ok (.astore_n 3, 1) := by decide +kernel
theorem dL_strip_12 : decode cL_strip 12 = .ok (.ldc 101, 2) := by decide +kernel
theorem dL_strip_14 : decode cL_strip 14 = .ok (.ireturn, 1) := by decide +kernel
theorem dL_wash_0 : decode cL_wash 0 = .ok (.aload_n 0, 1) := by decide +kernel
theorem dL_wash_1 : decode cL_wash 1 = .ok (.iload_n 1, 1) := by decide +kernel
theorem dL_wash_2 : decode cL_wash 2 = .ok (.iload_n 2, 1) := by decide +kernel
theorem dL_wash_3 : decode cL_wash 3 = .ok (.invokevirtual 102, 3) := by decide +kernel
theorem dL_wash_6 : decode cL_wash 6 = .ok (.ireturn, 1) := by decide +kernel
theorem dL_wash_7 : decode cL_wash 7 = .ok (.astore_n 3, 1) := by decide +kernel
theorem dL_wash_8 : decode cL_wash 8 = .ok (.ldc 52, 2) := by decide +kernel
theorem dL_wash_10 : decode cL_wash 10 = .ok (.ireturn, 1) := by decide +kernel
theorem dL_wash_11 : decode cL_wash 11 = .ok (.astore_n 3, 1) := by decide +kernel
theorem dL_wash_12 : decode cL_wash 12 = .ok (.ldc 101, 2) := by decide +kernel
theorem dL_wash_14 : decode cL_wash 14 = .ok (.ireturn, 1) := by decide +kernel
theorem dL_writeAll_0 : decode cL_writeAll 0 = .ok (.aload_n 0, 1) := by decide +kernel
theorem dL_writeAll_1 : decode cL_writeAll 1 = .ok (.aload_n 1, 1) := by decide +kernel
theorem dL_writeAll_2 : decode cL_writeAll 2 = .ok (.aload_n 2, 1) := by decide +kernel
theorem dL_writeAll_3 : decode cL_writeAll 3 = .ok (.invokestatic 105, 3) := by decide +kernel
theorem dL_writeAll_6 : decode cL_writeAll 6 = .ok (.aload_n 3, 1) := by decide +kernel
theorem dL_writeAll_7 : decode cL_writeAll 7 = .ok (.astore 4, 2) := by decide +kernel
theorem dL_writeAll_9 : decode cL_writeAll 9 = .ok (.aload 4, 2) := by decide +kernel
theorem dL_writeAll_11 : decode cL_writeAll 11 = .ok (.arraylength, 1) := by decide +kernel
theorem dL_writeAll_12 : decode cL_writeAll 12 = .ok (.istore 5, 2) := by decide +kernel
theorem dL_writeAll_14 : decode cL_writeAll 14 = .ok (.iconst 0, 1) := by decide +kernel
theorem dL_writeAll_15 : decode cL_writeAll 15 = .ok (.istore 6, 2) := by decide +kernel
theorem dL_writeAll_17 : decode cL_writeAll 17 = .ok (.iload 6, 2) := by decide +kernel
theorem dL_writeAll_19 : decode cL_writeAll 19 = .ok (.iload 5, 2) := by decide +kernel
theorem dL_writeAll_21 : decode cL_writeAll 21 = .ok (.if_icmp .ge 30, 3) := by decide +kernel
theorem dL_writeAll_24 : decode cL_writeAll 24 = .ok (.aload 4, 2) := by decide +kernel
theorem dL_writeAll_26 : decode cL_writeAll 26 = .ok (.iload 6, 2) := by decide +kernel
theorem dL_writeAll_28 : decode cL_writeAll 28 = .ok (.iaload, 1) := by decide +kernel
theorem dL_writeAll_29 : decode cL_writeAll 29 = .ok (.istore 7, 2) := by decide +kernel
theorem dL_writeAll_31 : decode cL_writeAll 31 = .ok (.aload_n 0, 1) := by decide +kernel
theorem dL_writeAll_32 : decode cL_writeAll 32 = .ok (.aload_n 1, 1) := by decide +kernel
theorem dL_writeAll_33 : decode cL_writeAll 33 = .ok (.ldc 109, 2) := by decide +kernel
theorem dL_writeAll_35 : decode cL_writeAll 35 = .ok (.invokestatic 105, 3) := by decide +kernel
theorem dL_writeAll_38 : decode cL_writeAll 38 = .ok (.aload_n 0, 1) := by decide +kernel
theorem dL_writeAll_39 : decode cL_writeAll 39 = .ok (.aload_n 1, 1) := by decide +kernel
theorem dL_writeAll_40 : decode cL_writeAll 40 = .ok (.iload 7, 2) := by decide +kernel
theorem dL_writeAll_42 : decode cL_writeAll 42 = .ok (.invokestatic 111, 3) := by decide +kernel
theorem dL_writeAll_45 : decode cL_writeAll 45 = .ok (.iinc 6 1, 3) := by decide +kernel
theorem dL_writeAll_48 : decode cL_writeAll 48 = .ok (.goto (-31), 3) := by decide +kernel
theorem dL_writeAll_51 : decode cL_writeAll 51 = .ok (.return_, 1) := by decide +kernel
theorem dL_randomKite_0 : decode cL_randomKite 0 = .ok (.new 114, 3) := by decide +kernel
theorem dL_randomKite_3 : decode cL_randomKite 3 = .ok (.dup, 1) := by decide +kernel
theorem dL_randomKite_4 : decode cL_randomKite 4 = .ok (.invokespecial 116, 3) := by decide +kernel
theorem dL_randomKite_7 : decode cL_randomKite 7 = .ok (.astore_n 3, 1) := by decide +kernel
theorem dL_randomKite_8 : decode cL_randomKite 8 = .ok (.aload_n 3, 1) := by decide +kernel
theorem dL_randomKite_9 : decode cL_randomKite 9 = .ok (.iconst 1, 1) := by decide +kernel
theorem dL_randomKite_10 : decode cL_randomKite 10 = .ok (.iconst 2, 1) := by decide +kernel
theorem dL_randomKite_11 : decode cL_randomKite 11 = .ok (.aload_n 2, 1) := by decide +kernel
theorem dL_randomKite_12 : decode cL_randomKite 12 = .ok (.iconst 4, 1) := by decide +kernel
theorem dL_randomKite_13 : decode cL_randomKite 13 = .ok (.invokevirtual 117, 3) := by decide +kernel
theorem dL_randomKite_16 : decode cL_randomKite 16 = .ok (.imul, 1) := by decide +kernel
theorem dL_randomKite_17 : decode cL_randomKite 17 = .ok (.iadd, 1) := by decide +kernel
theorem dL_randomKite_18 : decode cL_randomKite 18 = .ok (.putfield 122, 3) := by decide +kernel
theorem dL_randomKite_21 : decode cL_randomKite 21 = .ok (.aload_n 3, 1) := by decide +kernel
theorem dL_randomKite_22 : decode cL_randomKite 22 = .ok (.iconst 1, 1) := by decide +kernel
theorem dL_randomKite_23 : decode cL_randomKite 23 = .ok (.aload_n 2, 1) := by decide +kernel
theorem dL_randomKite_24 : decode cL_randomKite 24 = .ok (.bipush 6, 2) := by decide +kernel
theorem dL_randomKite_26 : decode cL_randomKite 26 = .ok (.invokevirtual 117, 3) := by decide +kernel
theorem dL_randomKite_29 : decode cL_randomKite 29 = .ok (.iadd, 1) := by decide +kernel
theorem dL_randomKite_30 : decode cL_randomKite 30 = .ok (.putfield 126, 3) := by decide +kernel
theorem dL_randomKite_33 : decode cL_randomKite 33 = .ok (.aload_n 0, 1) := by decide +kernel
theorem dL_randomKite_34 : decode cL_randomKite 34 = .ok (.aload_n 1, 1) := by decide +kernel
theorem dL_randomKite_35 : decode cL_randomKite 35 = .ok (.ldc 129, 2) := by decide +kernel
theorem dL_randomKite_37 : decode cL_randomKite 37 = .ok (.iconst 2, 1) := by decide +kernel
theorem dL_randomKite_38 : decode cL_randomKite 38 = .ok (.newarray .int, 2) := by decide +kernel
theorem dL_randomKite_40 : decode cL_randomKite 40 = .ok (.dup, 1) := by decide +kernel
theorem dL_randomKite_41 : decode cL_randomKite 41 = .ok (.iconst 0, 1) := by decide +kernel
theorem dL_randomKite_42 : decode cL_randomKite 42 = .ok (.aload_n 3, 1) := by decide +kernel
theorem dL_randomKite_43 : decode cL_randomKite 43 = .ok (.getfield 122, 3) := by decide +kernel
theorem dL_randomKite_46 : decode cL_randomKite 46 = .ok (.iastore, 1) := by decide +kernel
theorem dL_randomKite_47 : decode cL_randomKite 47 = .ok (.dup, 1) := by decide +kernel
theorem dL_randomKite_48 : decode cL_randomKite 48 = .ok (.iconst 1, 1) := by decide +kernel
theorem dL_randomKite_49 : decode cL_randomKite 49 = .ok (.aload_n 3, 1) := by decide +kernel
theorem dL_randomKite_50 : decode cL_randomKite 50 = .ok (.getfield 126, 3) := by decide +kernel
theorem dL_randomKite_53 : decode cL_randomKite 53 = .ok (.iastore, 1) := by decide +kernel
theorem dL_randomKite_54 : decode cL_randomKite 54 = .ok (.invokestatic 131, 3) := by decide +kernel
theorem dL_randomKite_57 : decode cL_randomKite 57 = .ok (.aload_n 0, 1) := by decide +kernel
theorem dL_randomKite_58 : decode cL_randomKite 58 = .ok (.aload_n 1, 1) := by decide +kernel
theorem dL_randomKite_59 : decode cL_randomKite 59 = .ok (.ldc 135, 2) := by decide +kernel
theorem dL_randomKite_61 : decode cL_randomKite 61 = .ok (.invokestatic 105, 3) := by decide +kernel
theorem dL_randomKite_64 : decode cL_randomKite 64 = .ok (.aload_n 3, 1) := by decide +kernel
theorem dL_randomKite_65 : decode cL_randomKite 65 = .ok (.getfield 126, 3) := by decide +kernel
theorem dL_randomKite_68 : decode cL_randomKite 68 = .ok (.newarray .int, 2) := by decide +kernel
theorem dL_randomKite_70 : decode cL_randomKite 70 = .ok (.astore 4, 2) := by decide +kernel
theorem dL_randomKite_72 : decode cL_randomKite 72 = .ok (.aload_n 2, 1) := by decide +kernel
theorem dL_randomKite_73 : decode cL_randomKite 73 = .ok (.iconst 3, 1) := by decide +kernel
theorem dL_randomKite_74 : decode cL_randomKite 74 = .ok (.invokevirtual 117, 3) := by decide +kernel
theorem dL_randomKite_77 : decode cL_randomKite 77 = .ok (.ifCond .le 7, 3) := by decide +kernel
theorem dL_randomKite_80 : decode cL_randomKite 80 = .ok (.iconst 1, 1) := by decide +kernel
theorem dL_randomKite_81 : decode cL_randomKite 81 = .ok (.goto 4, 3) := by decide +kernel
theorem dL_randomKite_84 : decode cL_randomKite 84 = .ok (.iconst 0, 1) := by decide +kernel
theorem dL_randomKite_85 : decode cL_randomKite 85 = .ok (.istore 5, 2) := by decide +kernel
theorem dL_randomKite_87 : decode cL_randomKite 87 = .ok (.iconst 0, 1) := by decide +kernel
theorem dL_randomKite_88 : decode cL_randomKite 88 = .ok (.istore 6, 2) := by decide +kernel
theorem dL_randomKite_90 : decode cL_randomKite 90 = .ok (.iload 6, 2) := by decide +kernel
theorem dL_randomKite_92 : decode cL_randomKite 92 = .ok (.aload_n 3, 1) := by decide +kernel
theorem dL_randomKite_93 : decode cL_randomKite 93 = .ok (.getfield 126, 3) := by decide +kernel
theorem dL_randomKite_96 : decode cL_randomKite 96 = .ok (.if_icmp .ge 40, 3) := by decide +kernel
theorem dL_randomKite_99 : decode cL_randomKite 99 = .ok (.aload 4, 2) := by decide +kernel
theorem dL_randomKite_101 : decode cL_randomKite 101 = .ok (.iload 6, 2) := by decide +kernel
theorem dL_randomKite_103 : decode cL_randomKite 103 = .ok (.iload 5, 2) := by decide +kernel
theorem dL_randomKite_105 : decode cL_randomKite 105 = .ok (.ifCond .eq 18, 3) := by decide +kernel
theorem dL_randomKite_108 : decode cL_randomKite 108 = .ok (.aload_n 2, 1) := by decide +kernel
theorem dL_randomKite_109 : decode cL_randomKite 109 = .ok (.aload_n 3, 1) := by decide +kernel
theorem dL_randomKite_110 : decode cL_randomKite 110 = .ok (.getfield 122, 3) := by decide +kernel
theorem dL_randomKite_113 : decode cL_randomKite 113 = .ok (.iconst 2, 1) := by decide +kernel
theorem dL_randomKite_114 : decode cL_randomKite 114 = .ok (.idiv, 1) := by decide +kernel
theorem dL_randomKite_115 : decode cL_randomKite 115 = .ok (.iconst 1, 1) := by decide +kernel
theorem dL_randomKite_116 : decode cL_randomKite 116 = .ok (.iadd, 1) := by decide +kernel
theorem dL_randomKite_117 : decode cL_randomKite 117 = .ok (.invokevirtual 117, 3) := by decide +kernel
theorem dL_randomKite_120 : decode cL_randomKite 120 = .ok (.goto 9, 3) := by decide +kernel
theorem dL_randomKite_123 : decode cL_randomKite 123 = .ok (.aload_n 3, 1) := by decide +kernel
theorem dL_randomKite_124 : decode cL_randomKite 124 = .ok (.getfield 122, 3) := by decide +kernel
theorem dL_randomKite_127 : decode cL_randomKite 127 = .ok (.iconst 2, 1) := by decide +kernel
theorem dL_randomKite_128 : decode cL_randomKite 128 = .ok (.idiv, 1) := by decide +kernel
theorem dL_randomKite_129 : decode cL_randomKite 129 = .ok (.iastore, 1) := by decide +kernel
theorem dL_randomKite_130 : decode cL_randomKite 130 = .ok (.iinc 6 1, 3) := by decide +kernel
theorem dL_randomKite_133 : decode cL_randomKite 133 = .ok (.goto (-43), 3) := by decide +kernel
theorem dL_randomKite_136 : decode cL_randomKite 136 = .ok (.iload 5, 2) := by decide +kernel
theorem dL_randomKite_138 : decode cL_randomKite 138 = .ok (.ifCond .eq 19, 3) := by decide +kernel
theorem dL_randomKite_141 : decode cL_randomKite 141 = .ok (.aload_n 0, 1) := by decide +kernel
theorem dL_randomKite_142 : decode cL_randomKite 142 = .ok (.aload_n 1, 1) := by decide +kernel
theorem dL_randomKite_143 : decode cL_randomKite 143 = .ok (.ldc 137, 2) := by decide +kernel
theorem dL_randomKite_145 : decode cL_randomKite 145 = .ok (.aload 4, 2) := by decide +kernel
theorem dL_randomKite_147 : decode cL_randomKite 147 = .ok (.invokestatic 131, 3) := by decide +kernel
theorem dL_randomKite_150 : decode cL_randomKite 150 = .ok (.aload_n 0, 1) := by decide +kernel
theorem dL_randomKite_151 : decode cL_randomKite 151 = .ok (.aload_n 1, 1) := by decide +kernel
theorem dL_randomKite_152 : decode cL_randomKite 152 = .ok (.ldc 135, 2) := by decide +kernel
theorem dL_randomKite_154 : decode cL_randomKite 154 = .ok (.invokestatic 105, 3) := by decide +kernel
theorem dL_randomKite_157 : decode cL_randomKite 157 = .ok (.aload_n 3, 1) := by decide +kernel
theorem dL_randomKite_158 : decode cL_randomKite 158 = .ok (.aload 4, 2) := by decide +kernel
theorem dL_randomKite_160 : decode cL_randomKite 160 = .ok (.invokevirtual 139, 3) := by decide +kernel
theorem dL_randomKite_163 : decode cL_randomKite 163 = .ok (.pop, 1) := by decide +kernel
theorem dL_randomKite_164 : decode cL_randomKite 164 = .ok (.aload_n 2, 1) := by decide +kernel
theorem dL_randomKite_165 : decode cL_randomKite 165 = .ok (.iconst 2, 1) := by decide +kernel
theorem dL_randomKite_166 : decode cL_randomKite 166 = .ok (.invokevirtual 117, 3) := by decide +kernel
theorem dL_randomKite_169 : decode cL_randomKite 169 = .ok (.ifCond .ne 64, 3) := by decide +kernel
theorem dL_randomKite_172 : decode cL_randomKite 172 = .ok (.aload_n 3, 1) := by decide +kernel
theorem dL_randomKite_173 : decode cL_randomKite 173 = .ok (.aload_n 2, 1) := by decide +kernel
theorem dL_randomKite_174 : decode cL_randomKite 174 = .ok (.bipush 100, 2) := by decide +kernel
theorem dL_randomKite_176 : decode cL_randomKite 176 = .ok (.invokevirtual 117, 3) := by decide +kernel
theorem dL_randomKite_179 : decode cL_randomKite 179 = .ok (.putfield 143, 3) := by decide +kernel
theorem dL_randomKite_182 : decode cL_randomKite 182 = .ok (.aload_n 3, 1) := by decide +kernel
theorem dL_randomKite_183 : decode cL_randomKite 183 = .ok (.aload_n 2, 1) := by decide +kernel
theorem dL_randomKite_184 : decode cL_randomKite 184 = .ok (.bipush 100, 2) := by decide +kernel
theorem dL_randomKite_186 : decode cL_randomKite 186 = .ok (.invokevirtual 117, 3) := by decide +kernel
theorem dL_randomKite_189 : decode cL_randomKite 189 = .ok (.putfield 146, 3) := by decide +kernel
theorem dL_randomKite_192 : decode cL_randomKite 192 = .ok (.aload_n 0, 1) := by decide +kernel
theorem dL_randomKite_193 : decode cL_randomKite 193 = .ok (.aload_n 1, 1) := by decide +kernel
theorem dL_randomKite_194 : decode cL_randomKite 194 = .ok (.ldc 149, 2) := by decide +kernel
theorem dL_randomKite_196 : decode cL_randomKite 196 = .ok (.iconst 1, 1) := by decide +kernel
theorem dL_randomKite_197 : decode cL_randomKite 197 = .ok (.newarray .int, 2) := by decide +kernel
theorem dL_randomKite_199 : decode cL_randomKite 199 = .ok (.dup, 1) := by decide +kernel
theorem dL_randomKite_200 : decode cL_randomKite 200 = .ok (.iconst 0, 1) := by decide +kernel
theorem dL_randomKite_201 : decode cL_randomKite 201 = .ok (.aload_n 3, 1) := by decide +kernel
theorem dL_randomKite_202 : decode cL_randomKite 202 = .ok (.getfield 143, 3) := by decide +kernel
theorem dL_randomKite_205 : decode cL_randomKite 205 = .ok (.iastore, 1) := by decide +kernel
theorem dL_randomKite_206 : decode cL_randomKite 206 = .ok (.invokestatic 131, 3) := by decide +kernel
theorem dL_randomKite_209 : decode cL_randomKite 209 = .ok (.aload_n 0, 1) := by decide +kernel
theorem dL_randomKite_210 : decode cL_randomKite 210 = .ok (.aload_n 1, 1) := by decide +kernel
theorem dL_randomKite_211 : decode cL_randomKite 211 = .ok (.ldc 150, 2) := by decide +kernel
theorem dL_randomKite_213 : decode cL_randomKite 213 = .ok (.iconst 1, 1) := by decide +kernel
theorem dL_randomKite_214 : decode cL_randomKite 214 = .ok (.newarray .int, 2) := by decide +kernel
theorem dL_randomKite_216 : decode cL_randomKite 216 = .ok (.dup, 1) := by decide +kernel
theorem dL_randomKite_217 : decode cL_randomKite 217 = .ok (.iconst 0, 1) := by decide +kernel
theorem dL_randomKite_218 : decode cL_randomKite 218 = .ok (.aload_n 3, 1) := by decide +kernel
theorem dL_randomKite_219 : decode cL_randomKite 219 = .ok (.getfield 146, 3) := by decide +kernel
theorem dL_randomKite_222 : decode cL_randomKite 222 = .ok (.iastore, 1) := by decide +kernel
theorem dL_randomKite_223 : decode cL_randomKite 223 = .ok (.invokestatic 131, 3) := by decide +kernel
theorem dL_randomKite_226 : decode cL_randomKite 226 = .ok (.aload_n 0, 1) := by decide +kernel
theorem dL_randomKite_227 : decode cL_randomKite 227 = .ok (.aload_n 1, 1) := by decide +kernel
theorem dL_randomKite_228 : decode cL_randomKite 228 = .ok (.ldc 135, 2) := by decide +kernel
theorem dL_randomKite_230 : decode cL_randomKite 230 = .ok (.invokestatic 105, 3) := by decide +kernel
theorem dL_randomKite_233 : decode cL_randomKite 233 = .ok (.iconst 1, 1) := by decide +kernel
theorem dL_randomKite_234 : decode cL_randomKite 234 = .ok (.istore 6, 2) := by decide +kernel
theorem dL_randomKite_236 : decode cL_randomKite 236 = .ok (.iload 6, 2) := by decide +kernel
theorem dL_randomKite_238 : decode cL_randomKite 238 = .ok (.bipush 7, 2) := by decide +kernel
theorem dL_randomKite_240 : decode cL_randomKite 240 = .ok (.if_icmp .ge 65, 3) := by decide +kernel
theorem dL_randomKite_243 : decode cL_randomKite 243 = .ok (.aload_n 2, 1) := by decide +kernel
theorem dL_randomKite_244 : decode cL_randomKite 244 = .ok (.iconst 2, 1) := by decide +kernel
theorem dL_randomKite_245 : decode cL_randomKite 245 = .ok (.invokevirtual 117, 3) := by decide +kernel
theorem dL_randomKite_248 : decode cL_randomKite 248 = .ok (.ifCond .ne 6, 3) := by decide +kernel
theorem dL_randomKite_251 : decode cL_randomKite 251 = .ok (.goto 48, 3) := by decide +kernel
theorem dL_randomKite_254 : decode cL_randomKite 254 = .ok (.aload_n 3, 1) := by decide +kernel
theorem dL_randomKite_255 : decode cL_randomKite 255 = .ok (.getfield 152, 3) := by decide +kernel
theorem dL_randomKite_258 : decode cL_randomKite 258 = .ok (.iload 6, 2) := by decide +kernel
theorem dL_randomKite_260 : decode cL_randomKite 260 = .ok (.aload_n 2, 1) := by decide +kernel
theorem dL_randomKite_261 : decode cL_randomKite 261 = .ok (.bipush 20, 2) := by decide +kernel
theorem dL_randomKite_263 : decode cL_randomKite 263 = .ok (.invokevirtual 117, 3) := by decide +kernel
theorem dL_randomKite_266 : decode cL_randomKite 266 = .ok (.iastore, 1) := by decide +kernel
theorem dL_randomKite_267 : decode cL_randomKite 267 = .ok (.aload_n 0, 1) := by decide +kernel
theorem dL_randomKite_268 : decode cL_randomKite 268 = .ok (.aload_n 1, 1) := by decide +kernel
theorem dL_randomKite_269 : decode cL_randomKite 269 = .ok (.ldc 156, 2) := by decide +kernel
theorem dL_randomKite_271 : decode cL_randomKite 271 = .ok (.iconst 2, 1) := by decide +kernel
theorem dL_randomKite_272 : decode cL_randomKite 272 = .ok (.newarray .int, 2) := by decide +kernel
theorem dL_randomKite_274 : decode cL_randomKite 274 = .ok (.dup, 1) := by decide +kernel
theorem dL_randomKite_275 : decode cL_randomKite 275 = .ok (.iconst 0, 1) := by decide +kernel
theorem dL_randomKite_276 : decode cL_randomKite 276 = .ok (.iload 6, 2) := by decide +kernel
theorem dL_randomKite_278 : decode cL_randomKite 278 = .ok (.iastore, 1) := by decide +kernel
theorem dL_randomKite_279 : decode cL_randomKite 279 = .ok (.dup, 1) := by decide +kernel
theorem dL_randomKite_280 : decode cL_randomKite 280 = .ok (.iconst 1, 1) := by decide +kernel
theorem dL_randomKite_281 : decode cL_randomKite 281 = .ok (.aload_n 3, 1) := by decide +kernel
theorem dL_randomKite_282 : decode cL_randomKite 282 = .ok (.getfield 152, 3) := by decide +kernel
theorem dL_randomKite_285 : decode cL_randomKite 285 = .ok (.iload 6, 2) := by decide +kernel
theorem dL_randomKite_287 : decode cL_randomKite 287 = .ok (.iaload, 1) := by decide +kernel
theorem dL_randomKite_288 : decode cL_randomKite 288 = .ok (.iastore, 1) := by decide +kernel
theorem dL_randomKite_289 : decode cL_randomKite 289 = .ok (.invokestatic 131, 3) := by decide +kernel
theorem dL_randomKite_292 : decode cL_randomKite 292 = .ok (.aload_n 0, 1) := by decide +kernel
theorem dL_randomKite_293 : decode cL_randomKite 293 = .ok (.aload_n 1, 1) := by decide +kernel
theorem dL_randomKite_294 : decode cL_randomKite 294 = .ok (.ldc 135, 2) := by decide +kernel
theorem dL_randomKite_296 : decode cL_randomKite 296 = .ok (.invokestatic 105, 3) := by decide +kernel
theorem dL_randomKite_299 : decode cL_randomKite 299 = .ok (.iinc 6 1, 3) := by decide +kernel
theorem dL_randomKite_302 : decode cL_randomKite 302 = .ok (.goto (-66), 3) := by decide +kernel
theorem dL_randomKite_305 : decode cL_randomKite 305 = .ok (.aload_n 2, 1) := by decide +kernel
theorem dL_randomKite_306 : decode cL_randomKite 306 = .ok (.iconst 5, 1) := by decide +kernel
theorem dL_randomKite_307 : decode cL_randomKite 307 = .ok (.invokevirtual 117, 3) := by decide +kernel
theorem dL_randomKite_310 : decode cL_randomKite 310 = .ok (.istore 6, 2) := by decide +kernel
theorem dL_randomKite_312 : decode cL_randomKite 312 = .ok (.iload 6, 2) := by decide +kernel
theorem dL_randomKite_314 : decode cL_randomKite 314 = .ok (.ifCond .le 118, 3) := by decide +kernel
theorem dL_randomKite_317 : decode cL_randomKite 317 = .ok (.iconst 1, 1) := by decide +kernel
theorem dL_randomKite_318 : decode cL_randomKite 318 = .ok (.aload_n 2, 1) := by decide +kernel
theorem dL_randomKite_319 : decode cL_randomKite 319 = .ok (.bipush 6, 2) := by decide +kernel
theorem dL_randomKite_321 : decode cL_randomKite 321 = .ok (.invokevirtual 117, 3) := by decide +kernel
theorem dL_randomKite_324 : decode cL_randomKite 324 = .ok (.iadd, 1) := by decide +kernel
theorem dL_randomKite_325 : decode cL_randomKite 325 = .ok (.istore 7, 2) := by decide +kernel
theorem dL_randomKite_327 : decode cL_randomKite 327 = .ok (.iconst 1, 1) := by decide +kernel
theorem dL_randomKite_328 : decode cL_randomKite 328 = .ok (.aload_n 2, 1) := by decide +kernel
theorem dL_randomKite_329 : decode cL_randomKite 329 = .ok (.bipush 6, 2) := by decide +kernel
theorem dL_randomKite_331 : decode cL_randomKite 331 = .ok (.invokevirtual 117, 3) := by decide +kernel
theorem dL_randomKite_334 : decode cL_randomKite 334 = .ok (.iadd, 1) := by decide +kernel
theorem dL_randomKite_335 : decode cL_randomKite 335 = .ok (.istore 8, 2) := by decide +kernel
theorem dL_randomKite_337 : decode cL_randomKite 337 = .ok (.iload 7, 2) := by decide +kernel
theorem dL_randomKite_339 : decode cL_randomKite 339 = .ok (.iload 8, 2) := by decide +kernel
theorem dL_randomKite_341 : decode cL_randomKite 341 = .ok (.if_icmp .eq 85, 3) := by decide +kernel
theorem dL_randomKite_344 : decode cL_randomKite 344 = .ok (.aload_n 3, 1) := by decide +kernel
theorem dL_randomKite_345 : decode cL_randomKite 345 = .ok (.getfield 158, 3) := by decide +kernel
theorem dL_randomKite_348 : decode cL_randomKite 348 = .ok (.iload 7, 2) := by decide +kernel
theorem dL_randomKite_350 : decode cL_randomKite 350 = .ok (.aaload, 1) := by decide +kernel
theorem dL_randomKite_351 : decode cL_randomKite 351 = .ok (.iload 8, 2) := by decide +kernel
theorem dL_randomKite_353 : decode cL_randomKite 353 = .ok (.iaload, 1) := by decide +kernel
theorem dL_randomKite_354 : decode cL_randomKite 354 = .ok (.ifCond .le 6, 3) := by decide +kernel
theorem dL_randomKite_357 : decode cL_randomKite 357 = .ok (.goto 69, 3) := by decide +kernel
theorem dL_randomKite_360 : decode cL_randomKite 360 = .ok (.iconst 1, 1) := by decide +kernel
theorem dL_randomKite_361 : decode cL_randomKite 361 = .ok (.aload_n 2, 1) := by decide +kernel
theorem dL_randomKite_362 : decode cL_randomKite 362 = .ok (.bipush 6, 2) := by decide +kernel
theorem dL_randomKite_364 : decode cL_randomKite 364 = .ok (.invokevirtual 117, 3) := by decide +kernel
theorem dL_randomKite_367 : decode cL_randomKite 367 = .ok (.iadd, 1) := by decide +kernel
theorem dL_randomKite_368 : decode cL_randomKite 368 = .ok (.istore 9, 2) := by decide +kernel
theorem dL_randomKite_370 : decode cL_randomKite 370 = .ok (.aload_n 3, 1) := by decide +kernel
theorem dL_randomKite_371 : decode cL_randomKite 371 = .ok (.getfield 158, 3) := by decide +kernel
theorem dL_randomKite_374 : decode cL_randomKite 374 = .ok (.iload 7, 2) := by decide +kernel
theorem dL_randomKite_376 : decode cL_randomKite 376 = .ok (.aaload, 1) := by decide +kernel
theorem dL_randomKite_377 : decode cL_randomKite 377 = .ok (.iload 8, 2) := by decide +kernel
theorem dL_randomKite_379 : decode cL_randomKite 379 = .ok (.iload 9, 2) := by decide +kernel
theorem dL_randomKite_381 : decode cL_randomKite 381 = .ok (.iastore, 1) := by decide +kernel
theorem dL_randomKite_382 : decode cL_randomKite 382 = .ok (.aload_n 3, 1) := by decide +kernel
theorem dL_randomKite_383 : decode cL_randomKite 383 = .ok (.getfield 158, 3) := by decide +kernel
theorem dL_randomKite_386 : decode cL_randomKite 386 = .ok (.iload 8, 2) := by decide +kernel
theorem dL_randomKite_388 : decode cL_randomKite 388 = .ok (.aaload, 1) := by decide +kernel
theorem dL_randomKite_389 : decode cL_randomKite 389 = .ok (.iload 7, 2) := by decide +kernel
theorem dL_randomKite_391 : decode cL_randomKite 391 = .ok (.iload 9, 2) := by decide +kernel
theorem dL_randomKite_393 : decode cL_randomKite 393 = .ok (.iastore, 1) := by decide +kernel
theorem dL_randomKite_394 : decode cL_randomKite 394 = .ok (.aload_n 0, 1) := by decide +kernel
theorem dL_randomKite_395 : decode cL_randomKite 395 = .ok (.aload_n 1, 1) := by decide +kernel
theorem dL_randomKite_396 : decode cL_randomKite 396 = .ok (.ldc 162, 2) := by decide +kernel
theorem dL_randomKite_398 : decode cL_randomKite 398 = .ok (.iconst 3, 1) := by decide +kernel
theorem dL_randomKite_399 : decode cL_randomKite 399 = .ok (.newarray .int, 2) := by decide +kernel
theorem dL_randomKite_401 : decode cL_randomKite 401 = .ok (.dup, 1) := by decide +kernel
theorem dL_randomKite_402 : decode cL_randomKite 402 = .ok (.iconst 0, 1) := by decide +kernel
theorem dL_randomKite_403 : decode cL_randomKite 403 = .ok (.iload 7, 2) := by decide +kernel
theorem dL_randomKite_405 : decode cL_randomKite 405 = .ok (.iastore, 1) := by decide +kernel
theorem dL_randomKite_406 : decode cL_randomKite 406 = .ok (.dup, 1) := by decide +kernel
theorem dL_randomKite_407 : decode cL_randomKite 407 = .ok (.iconst 1, 1) := by decide +kernel
theorem dL_randomKite_408 : decode cL_randomKite 408 = .ok (.iload 8, 2) := by decide +kernel
theorem dL_randomKite_410 : decode cL_randomKite 410 = .ok (.iastore, 1) := by decide +kernel
theorem dL_randomKite_411 : decode cL_randomKite 411 = .ok (.dup, 1) := by decide +kernel
theorem dL_randomKite_412 : decode cL_randomKite 412 = .ok (.iconst 2, 1) := by decide +kernel
theorem dL_randomKite_413 : decode cL_randomKite 413 = .ok (.iload 9, 2) := by decide +kernel
theorem dL_randomKite_415 : decode cL_randomKite 415 = .ok (.iastore, 1) := by decide +kernel
theorem dL_randomKite_416 : decode cL_randomKite 416 = .ok (.invokestatic 131, 3) := by decide +kernel
theorem dL_randomKite_419 : decode cL_randomKite 419 = .ok (.aload_n 0, 1) := by decide +kernel
theorem dL_randomKite_420 : decode cL_randomKite 420 = .ok (.aload_n 1, 1) := by decide +kernel
theorem dL_randomKite_421 : decode cL_randomKite 421 = .ok (.ldc 135, 2) := by decide +kernel
theorem dL_randomKite_423 : decode cL_randomKite 423 = .ok (.invokestatic 105, 3) := by decide +kernel
theorem dL_randomKite_426 : decode cL_randomKite 426 = .ok (.iinc 6 (-1), 3) := by decide +kernel
theorem dL_randomKite_429 : decode cL_randomKite 429 = .ok (.goto (-117), 3) := by decide +kernel
theorem dL_randomKite_432 : decode cL_randomKite 432 = .ok (.aload_n 2, 1) := by decide +kernel
theorem dL_randomKite_433 : decode cL_randomKite 433 = .ok (.iconst 3, 1) := by decide +kernel
theorem dL_randomKite_434 : decode cL_randomKite 434 = .ok (.invokevirtual 117, 3) := by decide +kernel
theorem dL_randomKite_437 : decode cL_randomKite 437 = .ok (.istore 6, 2) := by decide +kernel
theorem dL_randomKite_439 : decode cL_randomKite 439 = .ok (.iload 6, 2) := by decide +kernel
theorem dL_randomKite_441 : decode cL_randomKite 441 = .ok (.ifCond .le 158, 3) := by decide +kernel
theorem dL_randomKite_444 : decode cL_randomKite 444 = .ok (.aload_n 2, 1) := by decide +kernel
theorem dL_randomKite_445 : decode cL_randomKite 445 = .ok (.iconst 2, 1) := by decide +kernel
theorem dL_randomKite_446 : decode cL_randomKite 446 = .ok (.invokevirtual 117, 3) := by decide +kernel
theorem dL_randomKite_449 : decode cL_randomKite 449 = .ok (.ifCond .ne 7, 3) := by decide +kernel
theorem dL_randomKite_452 : decode cL_randomKite 452 = .ok (.iconst 1, 1) := by decide +kernel
theorem dL_randomKite_453 : decode cL_randomKite 453 = .ok (.goto 4, 3) := by decide +kernel
theorem dL_randomKite_456 : decode cL_randomKite 456 = .ok (.iconst 0, 1) := by decide +kernel
theorem dL_randomKite_457 : decode cL_randomKite 457 = .ok (.istore 7, 2) := by decide +kernel
theorem dL_randomKite_459 : decode cL_randomKite 459 = .ok (.aload_n 2, 1) := by decide +kernel
theorem dL_randomKite_460 : decode cL_randomKite 460 = .ok (.aload_n 3, 1) := by decide +kernel
theorem dL_randomKite_461 : decode cL_randomKite 461 = .ok (.getfield 122, 3) := by decide +kernel
theorem dL_randomKite_464 : decode cL_randomKite 464 = .ok (.invokevirtual 117, 3) := by decide +kernel
theorem dL_randomKite_467 : decode cL_randomKite 467 = .ok (.istore 8, 2) := by decide +kernel
theorem dL_randomKite_469 : decode cL_randomKite 469 = .ok (.aload_n 2, 1) := by decide +kernel
theorem dL_randomKite_470 : decode cL_randomKite 470 = .ok (.aload_n 3, 1) := by decide +kernel
theorem dL_randomKite_471 : decode cL_randomKite 471 = .ok (.getfield 126, 3) := by decide +kernel
theorem dL_randomKite_474 : decode cL_randomKite 474 = .ok (.invokevirtual 117, 3) := by decide +kernel
theorem dL_randomKite_477 : decode cL_randomKite 477 = .ok (.istore 9, 2) := by decide +kernel
theorem dL_randomKite_479 : decode cL_randomKite 479 = .ok (.iconst 1, 1) := by decide +kernel
theorem dL_randomKite_480 : decode cL_randomKite 480 = .ok (.aload_n 2, 1) := by decide +kernel
theorem dL_randomKite_481 : decode cL_randomKite 481 = .ok (.iconst 5, 1) := by decide +kernel
theorem dL_randomKite_482 : decode cL_randomKite 482 = .ok (.invokevirtual 117, 3) := by decide +kernel
theorem dL_randomKite_485 : decode cL_randomKite 485 = .ok (.iadd, 1) := by decide +kernel
theorem dL_randomKite_486 : decode cL_randomKite 486 = .ok (.istore 10, 2) := by decide +kernel
theorem dL_randomKite_488 : decode cL_randomKite 488 = .ok (.aload_n 0, 1) := by decide +kernel
theorem dL_randomKite_489 : decode cL_randomKite 489 = .ok (.aload_n 1, 1) := by decide +kernel
theorem dL_randomKite_490 : decode cL_randomKite 490 = .ok (.iload 7, 2) := by decide +kernel
theorem dL_randomKite_492 : decode cL_randomKite 492 = .ok (.ifCond .eq 8, 3) := by decide +kernel
theorem dL_randomKite_495 : decode cL_randomKite 495 = .ok (.ldc 163, 2) := by decide +kernel
theorem dL_randomKite_497 : decode cL_randomKite 497 = .ok (.goto 5, 3) := by decide +kernel
theorem dL_randomKite_500 : decode cL_randomKite 500 = .ok (.ldc 165, 2) := by decide +kernel
theorem dL_randomKite_502 : decode cL_randomKite 502 = .ok (.iconst 3, 1) := by decide +kernel
theorem dL_randomKite_503 : decode cL_randomKite 503 = .ok (.newarray .int, 2) := by decide +kernel
theorem dL_randomKite_505 : decode cL_randomKite 505 = .ok (.dup, 1) := by decide +kernel
theorem dL_randomKite_506 : decode cL_randomKite 506 = .ok (.iconst 0, 1) := by decide +kernel
theorem dL_randomKite_507 : decode cL_randomKite 507 = .ok (.iload 8, 2) := by decide +kernel
theorem dL_randomKite_509 : decode cL_randomKite 509 = .ok (.iastore, 1) := by decide +kernel
theorem dL_randomKite_510 : decode cL_randomKite 510 = .ok (.dup, 1) := by decide +kernel
theorem dL_randomKite_511 : decode cL_randomKite 511 = .ok (.iconst 1, 1) := by decide +kernel
theorem dL_randomKite_512 : decode cL_randomKite 512 = .ok (.iload 9, 2) := by decide +kernel
theorem dL_randomKite_514 : decode cL_randomKite 514 = .ok (.iastore, 1) := by decide +kernel
theorem dL_randomKite_515 : decode cL_randomKite 515 = .ok (.dup, 1) := by decide +kernel
theorem dL_randomKite_516 : decode cL_randomKite 516 = .ok (.iconst 2, 1) := by decide +kernel
theorem dL_randomKite_517 : decode cL_randomKite 517 = .ok (.iload 10, 2) := by decide +kernel
theorem dL_randomKite_519 : decode cL_randomKite 519 = .ok (.iastore, 1) := by decide +kernel
theorem dL_randomKite_520 : decode cL_randomKite 520 = .ok (.invokestatic 131, 3) := by decide +kernel
theorem dL_randomKite_523 : decode cL_randomKite 523 = .ok (.aload_n 0, 1) := by decide +kernel
theorem dL_randomKite_524 : decode cL_randomKite 524 = .ok (.aload_n 1, 1) := by decide +kernel
theorem dL_randomKite_525 : decode cL_randomKite 525 = .ok (.ldc 135, 2) := by decide +kernel
theorem dL_randomKite_527 : decode cL_randomKite 527 = .ok (.invokestatic 105, 3) := by decide +kernel
theorem dL_randomKite_530 : decode cL_randomKite 530 = .ok (.iconst 0, 1) := by decide +kernel
theorem dL_randomKite_531 : decode cL_randomKite 531 = .ok (.istore 11, 2) := by decide +kernel
theorem dL_randomKite_533 : decode cL_randomKite 533 = .ok (.iload 11, 2) := by decide +kernel
theorem dL_randomKite_535 : decode cL_randomKite 535 = .ok (.iload 10, 2) := by decide +kernel
theorem dL_randomKite_537 : decode cL_randomKite 537 = .ok (.if_icmp .ge 56, 3) := by decide +kernel
theorem dL_randomKite_540 : decode cL_randomKite 540 = .ok (.aload_n 3, 1) := by decide +kernel
theorem dL_randomKite_541 : decode cL_randomKite 541 = .ok (.iload 7, 2) := by decide +kernel
theorem dL_randomKite_543 : decode cL_randomKite 543 = .ok (.ifCond .eq 8, 3) := by decide +kernel
theorem dL_randomKite_546 : decode cL_randomKite 546 = .ok (.iload 8, 2) := by decide +kernel
theorem dL_randomKite_548 : decode cL_randomKite 548 = .ok (.goto 8, 3) := by decide +kernel
theorem dL_randomKite_551 : decode cL_randomKite 551 = .ok (.iload 8, 2) := by decide +kernel
theorem dL_randomKite_553 : decode cL_randomKite 553 = .ok (.iload 11, 2) := by decide +kernel
theorem dL_randomKite_555 : decode cL_randomKite 555 = .ok (.iadd, 1) := by decide +kernel
theorem dL_randomKite_556 : decode cL_randomKite 556 = .ok (.iload 7, 2) := by decide +kernel
theorem dL_randomKite_558 : decode cL_randomKite 558 = .ok (.ifCond .eq 11, 3) := by decide +kernel
theorem dL_randomKite_561 : decode cL_randomKite 561 = .ok (.iload 9, 2) := by decide +kernel
theorem dL_randomKite_563 : decode cL_randomKite 563 = .ok (.iload 11, 2) := by decide +kernel
theorem dL_randomKite_565 : decode cL_randomKite 565 = .ok (.iadd, 1) := by decide +kernel
theorem dL_randomKite_566 : decode cL_randomKite 566 = .ok (.goto 5, 3) := by decide +kernel
theorem dL_randomKite_569 : decode cL_randomKite 569 = .ok (.iload 9, 2) := by decide +kernel
theorem dL_randomKite_571 : decode cL_randomKite 571 = .ok (.invokevirtual 167, 3) := by decide +kernel
theorem dL_randomKite_574 : decode cL_randomKite 574 = .ok (.astore 12, 2) := by decide +kernel
theorem dL_randomKite_576 : decode cL_randomKite 576 = .ok (.aload 12, 2) := by decide +kernel
theorem dL_randomKite_578 : decode cL_randomKite 578 = .ok (.ifnull 9, 3) := by decide +kernel
theorem dL_randomKite_581 : decode cL_randomKite 581 = .ok (.aload 12, 2) := by decide +kernel
theorem dL_randomKite_583 : decode cL_randomKite 583 = .ok (.iconst 1, 1) := by decide +kernel
theorem dL_randomKite_584 : decode cL_randomKite 584 = .ok (.putfield 171, 3) := by decide +kernel
theorem dL_randomKite_587 : decode cL_randomKite 587 = .ok (.iinc 11 1, 3) := by decide +kernel
theorem dL_randomKite_590 : decode cL_randomKite 590 = .ok (.goto (-57), 3) := by decide +kernel
theorem dL_randomKite_593 : decode cL_randomKite 593 = .ok (.iinc 6 (-1), 3) := by decide +kernel
theorem dL_randomKite_596 : decode cL_randomKite 596 = .ok (.goto (-157), 3) := by decide +kernel
theorem dL_randomKite_599 : decode cL_randomKite 599 = .ok (.aload_n 2, 1) := by decide +kernel
theorem dL_randomKite_600 : decode cL_randomKite 600 = .ok (.iconst 3, 1) := by decide +kernel
theorem dL_randomKite_601 : decode cL_randomKite 601 = .ok (.invokevirtual 117, 3) := by decide +kernel
theorem dL_randomKite_604 : decode cL_randomKite 604 = .ok (.istore 6, 2) := by decide +kernel
theorem dL_randomKite_606 : decode cL_randomKite 606 = .ok (.aload_n 3, 1) := by decide +kernel
theorem dL_randomKite_607 : decode cL_randomKite 607 = .ok (.iload 6, 2) := by decide +kernel
theorem dL_randomKite_609 : decode cL_randomKite 609 = .ok (.anewarray 177, 3) := by decide +kernel
theorem dL_randomKite_612 : decode cL_randomKite 612 = .ok (.putfield 179, 3) := by decide +kernel
theorem dL_randomKite_615 : decode cL_randomKite 615 = .ok (.iconst 0, 1) := by decide +kernel
theorem dL_randomKite_616 : decode cL_randomKite 616 = .ok (.istore 7, 2) := by decide +kernel
theorem dL_randomKite_618 : decode cL_randomKite 618 = .ok (.iload 7, 2) := by decide +kernel
theorem dL_randomKite_620 : decode cL_randomKite 620 = .ok (.iload 6, 2) := by decide +kernel
theorem dL_randomKite_622 : decode cL_randomKite 622 = .ok (.if_icmp .ge 147, 3) := by decide +kernel
theorem dL_randomKite_625 : decode cL_randomKite 625 = .ok (.iconst 1, 1) := by decide +kernel
theorem dL_randomKite_626 : decode cL_randomKite 626 = .ok (.aload_n 2, 1) := by decide +kernel
theorem dL_randomKite_627 : decode cL_randomKite 627 = .ok (.iconst 4, 1) := by decide +kernel
theorem dL_randomKite_628 : decode cL_randomKite 628 = .ok (.invokevirtual 117, 3) := by decide +kernel
theorem dL_randomKite_631 : decode cL_randomKite 631 = .ok (.iadd, 1) := by decide +kernel
theorem dL_randomKite_632 : decode cL_randomKite 632 = .ok (.istore 8, 2) := by decide +kernel
theorem dL_randomKite_634 : decode cL_randomKite 634 = .ok (.aload_n 3, 1) := by decide +kernel
theorem dL_randomKite_635 : decode cL_randomKite 635 = .ok (.getfield 179, 3) := by decide +kernel
theorem dL_randomKite_638 : decode cL_randomKite 638 = .ok (.iload 7, 2) := by decide +kernel
theorem dL_randomKite_640 : decode cL_randomKite 640 = .ok (.iconst 1, 1) := by decide +kernel
theorem dL_randomKite_641 : decode cL_randomKite 641 = .ok (.aload_n 2, 1) := by decide +kernel
theorem dL_randomKite_642 : decode cL_randomKite 642 = .ok (.iconst 3, 1) := by decide +kernel
theorem dL_randomKite_643 : decode cL_randomKite 643 = .ok (.invokevirtual 117, 3) := by decide +kernel
theorem dL_randomKite_646 : decode cL_randomKite 646 = .ok (.iadd, 1) := by decide +kernel
theorem dL_randomKite_647 : decode cL_randomKite 647 = .ok (.anewarray 24, 3) := by decide +kernel
theorem dL_randomKite_650 : decode cL_randomKite 650 = .ok (.aastore, 1) := by decide +kernel
theorem dL_randomKite_651 : decode cL_randomKite 651 = .ok (.aload_n 0, 1) := by decide +kernel
theorem dL_randomKite_652 : decode cL_randomKite 652 = .ok (.aload_n 1, 1) := by decide +kernel
theorem dL_randomKite_653 : decode cL_randomKite 653 = .ok (.ldc 183, 2) := by decide +kernel
theorem dL_randomKite_655 : decode cL_randomKite 655 = .ok (.invokestatic 105, 3) := by decide +kernel
theorem dL_randomKite_658 : decode cL_randomKite 658 = .ok (.iconst 0, 1) := by decide +kernel
theorem dL_randomKite_659 : decode cL_randomKite 659 = .ok (.istore 9, 2) := by decide +kernel
theorem dL_randomKite_661 : decode cL_randomKite 661 = .ok (.iload 9, 2) := by decide +kernel
theorem dL_randomKite_663 : decode cL_randomKite 663 = .ok (.aload_n 3, 1) := by decide +kernel
theorem dL_randomKite_664 : decode cL_randomKite 664 = .ok (.getfield 179, 3) := by decide +kernel
theorem dL_randomKite_667 : decode cL_randomKite 667 = .ok (.iload 7, 2) := by decide +kernel
theorem dL_randomKite_669 : decode cL_randomKite 669 = .ok (.aaload, 1) := by decide +kernel
theorem dL_randomKite_670 : decode cL_randomKite 670 = .ok (.arraylength, 1) := by decide +kernel
theorem dL_randomKite_671 : decode cL_randomKite 671 = .ok (.if_icmp .ge 85, 3) := by decide +kernel
theorem dL_randomKite_674 : decode cL_randomKite 674 = .ok (.ldc 184, 2) := by decide +kernel
theorem dL_randomKite_676 : decode cL_randomKite 676 = .ok (.astore 10, 2) := by decide +kernel
theorem dL_randomKite_678 : decode cL_randomKite 678 = .ok (.iconst 0, 1) := by decide +kernel
theorem dL_randomKite_679 : decode cL_randomKite 679 = .ok (.istore 11, 2) := by decide +kernel
theorem dL_randomKite_681 : decode cL_randomKite 681 = .ok (.iload 11, 2) := by decide +kernel
theorem dL_randomKite_683 : decode cL_randomKite 683 = .ok (.iload 8, 2) := by decide +kernel
theorem dL_randomKite_685 : decode cL_randomKite 685 = .ok (.if_icmp .ge 39, 3) := by decide +kernel
theorem dL_randomKite_688 : decode cL_randomKite 688 = .ok (.new 186, 3) := by decide +kernel
theorem dL_randomKite_691 : decode cL_randomKite 691 = .ok (.dup, 1) := by decide +kernel
theorem dL_randomKite_692 : decode cL_randomKite 692 = .ok (.invokespecial 188, 3) := by decide +kernel
theorem dL_randomKite_695 : decode cL_randomKite 695 = .ok (.aload 10, 2) := by decide +kernel
theorem dL_randomKite_697 : decode cL_randomKite 697 = .ok (.invokevirtual 189, 3) := by decide +kernel
theorem dL_randomKite_700 : decode cL_randomKite 700 = .ok (.bipush 48, 2) := by decide +kernel
theorem dL_randomKite_702 : decode cL_randomKite 702 = .ok (.aload_n 2, 1) := by decide +kernel
theorem dL_randomKite_703 : decode cL_randomKite 703 = .ok (.bipush 7, 2) := by decide +kernel
theorem dL_randomKite_705 : decode cL_randomKite 705 = .ok (.invokevirtual 117, 3) := by decide +kernel
theorem dL_randomKite_708 : decode cL_randomKite 708 = .ok (.iadd, 1) := by decide +kernel
theorem dL_randomKite_709 : decode cL_randomKite 709 = .ok (.i2c, 1) := by decide +kernel
theorem dL_randomKite_710 : decode cL_randomKite 710 = .ok (.invokevirtual 192, 3) := by decide +kernel
theorem dL_randomKite_713 : decode cL_randomKite 713 = .ok (.invokevirtual 195, 3) := by decide +kernel
theorem dL_randomKite_716 : decode cL_randomKite 716 = .ok (.astore 10, 2) := by decide +kernel
theorem dL_randomKite_718 : decode cL_randomKite 718 = .ok (.iinc 11 1, 3) := by decide +kernel
theorem dL_randomKite_721 : decode cL_randomKite 721 = .ok (.goto (-40), 3) := by decide +kernel
theorem dL_randomKite_724 : decode cL_randomKite 724 = .ok (.aload_n 3, 1) := by decide +kernel
theorem dL_randomKite_725 : decode cL_randomKite 725 = .ok (.getfield 179, 3) := by decide +kernel
theorem dL_randomKite_728 : decode cL_randomKite 728 = .ok (.iload 7, 2) := by decide +kernel
theorem dL_randomKite_730 : decode cL_randomKite 730 = .ok (.aaload, 1) := by decide +kernel
theorem dL_randomKite_731 : decode cL_randomKite 731 = .ok (.iload 9, 2) := by decide +kernel
theorem dL_randomKite_733 : decode cL_randomKite 733 = .ok (.aload 10, 2) := by decide +kernel
theorem dL_randomKite_735 : decode cL_randomKite 735 = .ok (.aastore, 1) := by decide +kernel
theorem dL_randomKite_736 : decode cL_randomKite 736 = .ok (.aload_n 0, 1) := by decide +kernel
theorem dL_randomKite_737 : decode cL_randomKite 737 = .ok (.aload_n 1, 1) := by decide +kernel
theorem dL_randomKite_738 : decode cL_randomKite 738 = .ok (.ldc 109, 2) := by decide +kernel
theorem dL_randomKite_740 : decode cL_randomKite 740 = .ok (.invokestatic 105, 3) := by decide +kernel
theorem dL_randomKite_743 : decode cL_randomKite 743 = .ok (.aload_n 0, 1) := by decide +kernel
theorem dL_randomKite_744 : decode cL_randomKite 744 = .ok (.aload_n 1, 1) := by decide +kernel
theorem dL_randomKite_745 : decode cL_randomKite 745 = .ok (.aload 10, 2) := by decide +kernel
theorem dL_randomKite_747 : decode cL_randomKite 747 = .ok (.invokestatic 105, 3) := by decide +kernel
theorem dL_randomKite_750 : decode cL_randomKite 750 = .ok (.iinc 9 1, 3) := by decide +kernel
theorem dL_randomKite_753 : decode cL_randomKite 753 = .ok (.goto (-92), 3) := by decide +kernel
theorem dL_randomKite_756 : decode cL_randomKite 756 = .ok (.aload_n 0, 1) := by decide +kernel
theorem dL_randomKite_757 : decode cL_randomKite 757 = .ok (.aload_n 1, 1) := by decide +kernel
theorem dL_randomKite_758 : decode cL_randomKite 758 = .ok (.ldc 135, 2) := by decide +kernel
theorem dL_randomKite_760 : decode cL_randomKite 760 = .ok (.invokestatic 105, 3) := by decide +kernel
theorem dL_randomKite_763 : decode cL_randomKite 763 = .ok (.iinc 7 1, 3) := by decide +kernel
theorem dL_randomKite_766 : decode cL_randomKite 766 = .ok (.goto (-148), 3) := by decide +kernel
theorem dL_randomKite_769 : decode cL_randomKite 769 = .ok (.aload_n 0, 1) := by decide +kernel
theorem dL_randomKite_770 : decode cL_randomKite 770 = .ok (.aload_n 1, 1) := by decide +kernel
theorem dL_randomKite_771 : decode cL_randomKite 771 = .ok (.invokestatic 199, 3) := by decide +kernel
theorem dL_randomKite_774 : decode cL_randomKite 774 = .ok (.aload_n 3, 1) := by decide +kernel
theorem dL_randomKite_775 : decode cL_randomKite 775 = .ok (.iconst 3, 1) := by decide +kernel
theorem dL_randomKite_776 : decode cL_randomKite 776 = .ok (.invokevirtual 203, 3) := by decide +kernel
theorem dL_randomKite_779 : decode cL_randomKite 779 = .ok (.if_icmp .ne 7, 3) := by decide +kernel
theorem dL_randomKite_782 : decode cL_randomKite 782 = .ok (.aload_n 3, 1) := by decide +kernel
theorem dL_randomKite_783 : decode cL_randomKite 783 = .ok (.goto 4, 3) := by decide +kernel
theorem dL_randomKite_786 : decode cL_randomKite 786 = .ok (.aconst_null, 1) := by decide +kernel
theorem dL_randomKite_787 : decode cL_randomKite 787 = .ok (.areturn, 1) := by decide +kernel
theorem dL_agrees_0 : decode cL_agrees 0 = .ok (.aload_n 0, 1) := by decide +kernel
theorem dL_agrees_1 : decode cL_agrees 1 = .ok (.invokevirtual 206, 3) := by decide +kernel
theorem dL_agrees_4 : decode cL_agrees 4 = .ok (.aload_n 1, 1) := by decide +kernel
theorem dL_agrees_5 : decode cL_agrees 5 = .ok (.invokevirtual 210, 3) := by decide +kernel
theorem dL_agrees_8 : decode cL_agrees 8 = .ok (.lcmp, 1) := by decide +kernel
theorem dL_agrees_9 : decode cL_agrees 9 = .ok (.ifCond .ne 59, 3) := by decide +kernel
theorem dL_agrees_12 : decode cL_agrees 12 = .ok (.aload_n 0, 1) := by decide +kernel
theorem dL_agrees_13 : decode cL_agrees 13 = .ok (.invokevirtual 211, 3) := by decide +kernel
theorem dL_agrees_16 : decode cL_agrees 16 = .ok (.aload_n 1, 1) := by decide +kernel
theorem dL_agrees_17 : decode cL_agrees 17 = .ok (.invokevirtual 214, 3) := by decide +kernel
theorem dL_agrees_20 : decode cL_agrees 20 = .ok (.if_icmp .ne 48, 3) := by decide +kernel
theorem dL_agrees_23 : decode cL_agrees 23 = .ok (.aload_n 0, 1) := by decide +kernel
theorem dL_agrees_24 : decode cL_agrees 24 = .ok (.bipush 13, 2) := by decide +kernel
theorem dL_agrees_26 : decode cL_agrees 26 = .ok (.invokestatic 215, 3) := by decide +kernel
theorem dL_agrees_29 : decode cL_agrees 29 = .ok (.ldc 42, 2) := by decide +kernel
theorem dL_agrees_31 : decode cL_agrees 31 = .ok (.if_icmp .ne 37, 3) := by decide +kernel
theorem dL_agrees_34 : decode cL_agrees 34 = .ok (.aload_n 0, 1) := by decide +kernel
theorem dL_agrees_35 : decode cL_agrees 35 = .ok (.aload_n 1, 1) := by decide +kernel
theorem dL_agrees_36 : decode cL_agrees 36 = .ok (.getfield 122, 3) := by decide +kernel
theorem dL_agrees_39 : decode cL_agrees 39 = .ok (.iconst 0, 1) := by decide +kernel
theorem dL_agrees_40 : decode cL_agrees 40 = .ok (.iconst 0, 1) := by decide +kernel
theorem dL_agrees_41 : decode cL_agrees 41 = .ok (.invokestatic 217, 3) := by decide +kernel
theorem dL_agrees_44 : decode cL_agrees 44 = .ok (.ldc 52, 2) := by decide +kernel
theorem dL_agrees_46 : decode cL_agrees 46 = .ok (.if_icmp .ne 22, 3) := by decide +kernel
theorem dL_agrees_49 : decode cL_agrees 49 = .ok (.aload_n 0, 1) := by decide +kernel
theorem dL_agrees_50 : decode cL_agrees 50 = .ok (.aload_n 1, 1) := by decide +kernel
theorem dL_agrees_51 : decode cL_agrees 51 = .ok (.getfield 179, 3) := by decide +kernel
theorem dL_agrees_54 : decode cL_agrees 54 = .ok (.arraylength, 1) := by decide +kernel
theorem dL_agrees_55 : decode cL_agrees 55 = .ok (.iconst 0, 1) := by decide +kernel
theorem dL_agrees_56 : decode cL_agrees 56 = .ok (.invokestatic 220, 3) := by decide +kernel
theorem dL_agrees_59 : decode cL_agrees 59 = .ok (.ldc 52, 2) := by decide +kernel
theorem dL_agrees_61 : decode cL_agrees 61 = .ok (.if_icmp .ne 7, 3) := by decide +kernel
theorem dL_agrees_64 : decode cL_agrees 64 = .ok (.iconst 1, 1) := by decide +kernel
theorem dL_agrees_65 : decode cL_agrees 65 = .ok (.goto 4, 3) := by decide +kernel
theorem dL_agrees_68 : decode cL_agrees 68 = .ok (.iconst 0, 1) := by decide +kernel
theorem dL_agrees_69 : decode cL_agrees 69 = .ok (.istore_n 2, 1) := by decide +kernel
theorem dL_agrees_70 : decode cL_agrees 70 = .ok (.iconst 0, 1) := by decide +kernel
theorem dL_agrees_71 : decode cL_agrees 71 = .ok (.istore_n 3, 1) := by decide +kernel
theorem dL_agrees_72 : decode cL_agrees 72 = .ok (.iload_n 3, 1) := by decide +kernel
theorem dL_agrees_73 : decode cL_agrees 73 = .ok (.bipush 13, 2) := by decide +kernel
theorem dL_agrees_75 : decode cL_agrees 75 = .ok (.if_icmp .ge 32, 3) := by decide +kernel
theorem dL_agrees_78 : decode cL_agrees 78 = .ok (.iload_n 2, 1) := by decide +kernel
theorem dL_agrees_79 : decode cL_agrees 79 = .ok (.ifCond .eq 28, 3) := by decide +kernel
theorem dL_agrees_82 : decode cL_agrees 82 = .ok (.aload_n 0, 1) := by decide +kernel
theorem dL_agrees_83 : decode cL_agrees 83 = .ok (.iload_n 3, 1) := by decide +kernel
theorem dL_agrees_84 : decode cL_agrees 84 = .ok (.invokestatic 215, 3) := by decide +kernel
theorem dL_agrees_87 : decode cL_agrees 87 = .ok (.aload_n 1, 1) := by decide +kernel
theorem dL_agrees_88 : decode cL_agrees 88 = .ok (.iload_n 3, 1) := by decide +kernel
theorem dL_agrees_89 : decode cL_agrees 89 = .ok (.invokevirtual 203, 3) := by decide +kernel
theorem dL_agrees_92 : decode cL_agrees 92 = .ok (.if_icmp .ne 7, 3) := by decide +kernel
theorem dL_agrees_95 : decode cL_agrees 95 = .ok (.iconst 1, 1) := by decide +kernel
theorem dL_agrees_96 : decode cL_agrees 96 = .ok (.goto 4, 3) := by decide +kernel
theorem dL_agrees_99 : decode cL_agrees 99 = .ok (.iconst 0, 1) := by decide +kernel
theorem dL_agrees_100 : decode cL_agrees 100 = .ok (.istore_n 2, 1) := by decide +kernel
theorem dL_agrees_101 : decode cL_agrees 101 = .ok (.iinc 3 1, 3) := by decide +kernel
theorem dL_agrees_104 : decode cL_agrees 104 = .ok (.goto (-32), 3) := by decide +kernel
theorem dL_agrees_107 : decode cL_agrees 107 = .ok (.iload_n 2, 1) := by decide +kernel
theorem dL_agrees_108 : decode cL_agrees 108 = .ok (.ireturn, 1) := by decide +kernel
theorem dL_law_0 : decode cL_law 0 = .ok (.iconst 1, 1) := by decide +kernel
theorem dL_law_1 : decode cL_law 1 = .ok (.istore_n 1, 1) := by decide +kernel
theorem dL_law_2 : decode cL_law 2 = .ok (.iconst 0, 1) := by decide +kernel
theorem dL_law_3 : decode cL_law 3 = .ok (.istore_n 2, 1) := by decide +kernel
theorem dL_law_4 : decode cL_law 4 = .ok (.iload_n 2, 1) := by decide +kernel
theorem dL_law_5 : decode cL_law 5 = .ok (.aload_n 0, 1) := by decide +kernel
theorem dL_law_6 : decode cL_law 6 = .ok (.arraylength, 1) := by decide +kernel
theorem dL_law_7 : decode cL_law 7 = .ok (.if_icmp .ge 1237, 3) := by decide +kernel
theorem dL_law_10 : decode cL_law 10 = .ok (.iload_n 2, 1) := by decide +kernel
theorem dL_law_11 : decode cL_law 11 = .ok (.iconst 1, 1) := by decide +kernel
theorem dL_law_12 : decode cL_law 12 = .ok (.if_icmp .ge 1232, 3) := by decide +kernel
theorem dL_law_15 : decode cL_law 15 = .ok (.iload_n 1, 1) := by decide +kernel
theorem dL_law_16 : decode cL_law 16 = .ok (.ifCond .eq 1228, 3) := by decide +kernel
theorem dL_law_19 : decode cL_law 19 = .ok (.new 14, 3) := by decide +kernel
theorem dL_law_22 : decode cL_law 22 = .ok (.dup, 1) := by decide +kernel
theorem dL_law_23 : decode cL_law 23 = .ok (.invokespecial 223, 3) := by decide +kernel
theorem dL_law_26 : decode cL_law 26 = .ok (.astore_n 3, 1) := by decide +kernel
theorem dL_law_27 : decode cL_law 27 = .ok (.bipush 8, 2) := by decide +kernel
theorem dL_law_29 : decode cL_law 29 = .ok (.newarray .int, 2) := by decide +kernel
theorem dL_law_31 : decode cL_law 31 = .ok (.astore 4, 2) := by decide +kernel
theorem dL_law_33 : decode cL_law 33 = .ok (.new 118, 3) := by decide +kernel
theorem dL_law_36 : decode cL_law 36 = .ok (.dup, 1) := by decide +kernel
theorem dL_law_37 : decode cL_law 37 = .ok (.aload_n 0, 1) := by decide +kernel
theorem dL_law_38 : decode cL_law 38 = .ok (.iload_n 2, 1) := by decide +kernel
theorem dL_law_39 : decode cL_law 39 = .ok (.iaload, 1) := by decide +kernel
theorem dL_law_40 : decode cL_law 40 = .ok (.invokespecial 224, 3) := by decide +kernel
theorem dL_law_43 : decode cL_law 43 = .ok (.astore 5, 2) := by decide +kernel
theorem dL_law_45 : decode cL_law 45 = .ok (.aload_n 3, 1) := by decide +kernel
theorem dL_law_46 : decode cL_law 46 = .ok (.new 114, 3) := by decide +kernel
theorem dL_law_49 : decode cL_law 49 = .ok (.dup, 1) := by decide +kernel
theorem dL_law_50 : decode cL_law 50 = .ok (.invokespecial 116, 3) := by decide +kernel
theorem dL_law_53 : decode cL_law 53 = .ok (.iconst 5, 1) := by decide +kernel
theorem dL_law_54 : decode cL_law 54 = .ok (.newarray .int, 2) := by decide +kernel
theorem dL_law_56 : decode cL_law 56 = .ok (.dup, 1) := by decide +kernel
theorem dL_law_57 : decode cL_law 57 = .ok (.iconst 0, 1) := by decide +kernel
theorem dL_law_58 : decode cL_law 58 = .ok (.iconst 2, 1) := by decide +kernel
theorem dL_law_59 : decode cL_law 59 = .ok (.iastore, 1) := by decide +kernel
theorem dL_law_60 : decode cL_law 60 = .ok (.dup, 1) := by decide +kernel
theorem dL_law_61 : decode cL_law 61 = .ok (.iconst 1, 1) := by decide +kernel
theorem dL_law_62 : decode cL_law 62 = .ok (.iconst 2, 1) := by decide +kernel
theorem dL_law_63 : decode cL_law 63 = .ok (.iastore, 1) := by decide +kernel
theorem dL_law_64 : decode cL_law 64 = .ok (.dup, 1) := by decide +kernel
theorem dL_law_65 : decode cL_law 65 = .ok (.iconst 2, 1) := by decide +kernel
theorem dL_law_66 : decode cL_law 66 = .ok (.iconst 2, 1) := by decide +kernel
theorem dL_law_67 : decode cL_law 67 = .ok (.iastore, 1) := by decide +kernel
theorem dL_law_68 : decode cL_law 68 = .ok (.dup, 1) := by decide +kernel
theorem dL_law_69 : decode cL_law 69 = .ok (.iconst 3, 1) := by decide +kernel
theorem dL_law_70 : decode cL_law 70 = .ok (.iconst 2, 1) := by decide +kernel
theorem dL_law_71 : decode cL_law 71 = .ok (.iastore, 1) := by decide +kernel
theorem dL_law_72 : decode cL_law 72 = .ok (.dup, 1) := by decide +kernel
theorem dL_law_73 : decode cL_law 73 = .ok (.iconst 4, 1) := by decide +kernel
theorem dL_law_74 : decode cL_law 74 = .ok (.iconst 2, 1) := by decide +kernel
theorem dL_law_75 : decode cL_law 75 = .ok (.iastore, 1) := by decide +kernel
theorem dL_law_76 : decode cL_law 76 = .ok (.invokevirtual 139, 3) := by decide +kernel
theorem dL_law_79 : decode cL_law 79 = .ok (.invokestatic 227, 3) := by decide +kernel
theorem dL_law_82 : decode cL_law 82 = .ok (.ifCond .eq 162, 3) := by decide +kernel
theorem dL_law_85 : decode cL_law 85 = .ok (.aload_n 3, 1) := by decide +kernel
theorem dL_law_86 : decode cL_law 86 = .ok (.invokevirtual 231, 3) := by decide +kernel
theorem dL_law_89 : decode cL_law 89 = .ok (.iconst (-1), 1) := by decide +kernel
theorem dL_law_90 : decode cL_law 90 = .ok (.if_icmp .ne 154, 3) := by decide +kernel
theorem dL_law_93 : decode cL_law 93 = .ok (.aload_n 3, 1) := by decide +kernel
theorem dL_law_94 : decode cL_law 94 = .ok (.invokevirtual 234, 3) := by decide +kernel
theorem dL_law_97 : decode cL_law 97 = .ok (.iconst (-1), 1) := by decide +kernel
theorem dL_law_98 : decode cL_law 98 = .ok (.if_icmp .ne 146, 3) := by decide +kernel
theorem dL_law_101 : decode cL_law 101 = .ok (.aload_n 3, 1) := by decide +kernel
theorem dL_law_102 : decode cL_law 102 = .ok (.iconst 5, 1) := by decide +kernel
theorem dL_law_103 : decode cL_law 103 = .ok (.iconst 0, 1) := by decide +kernel
theorem dL_law_104 : decode cL_law 104 = .ok (.iconst 1, 1) := by decide +kernel
theorem dL_law_105 : decode cL_law 105 = .ok (.iconst 1, 1) := by decide +kernel
theorem dL_law_106 : decode cL_law 106 = .ok (.iconst 0, 1) := by decide +kernel
theorem dL_law_107 : decode cL_law 107 = .ok (.invokestatic 237, 3) := by decide +kernel
theorem dL_law_110 : decode cL_law 110 = .ok (.ldc 52, 2) := by decide +kernel
theorem dL_law_112 : decode cL_law 112 = .ok (.if_icmp .ne 132, 3) := by decide +kernel
theorem dL_law_115 : decode cL_law 115 = .ok (.aload_n 3, 1) := by decide +kernel
theorem dL_law_116 : decode cL_law 116 = .ok (.iconst 0, 1) := by decide +kernel
theorem dL_law_117 : decode cL_law 117 = .ok (.iconst 0, 1) := by decide +kernel
theorem dL_law_118 : decode cL_law 118 = .ok (.bipush 7, 2) := by decide +kernel
theorem dL_law_120 : decode cL_law 120 = .ok (.iconst 1, 1) := by decide +kernel
theorem dL_law_121 : decode cL_law 121 = .ok (.iconst 0, 1) := by decide +kernel
theorem dL_law_122 : decode cL_law 122 = .ok (.invokestatic 237, 3) := by decide +kernel
theorem dL_law_125 : decode cL_law 125 = .ok (.ldc 42, 2) := by decide +kernel
theorem dL_law_127 : decode cL_law 127 = .ok (.if_icmp .ne 117, 3) := by decide +kernel
theorem dL_law_130 : decode cL_law 130 = .ok (.aload_n 3, 1) := by decide +kernel
theorem dL_law_131 : decode cL_law 131 = .ok (.iconst 0, 1) := by decide +kernel
theorem dL_law_132 : decode cL_law 132 = .ok (.iconst 0, 1) := by decide +kernel
theorem dL_law_133 : decode cL_law 133 = .ok (.iconst 4, 1) := by decide +kernel
theorem dL_law_134 : decode cL_law 134 = .ok (.iconst 1, 1) := by decide +kernel
theorem dL_law_135 : decode cL_law 135 = .ok (.iconst 1, 1) := by decide +kernel
theorem dL_law_136 : decode cL_law 136 = .ok (.invokestatic 240, 3) := by decide +kernel
theorem dL_law_139 : decode cL_law 139 = .ok (.ldc 42, 2) := by decide +kernel
theorem dL_law_141 : decode cL_law 141 = .ok (.if_icmp .ne 103, 3) := by decide +kernel
theorem dL_law_144 : decode cL_law 144 = .ok (.aload_n 3, 1) := by decide +kernel
theorem dL_law_145 : decode cL_law 145 = .ok (.iconst 0, 1) := by decide +kernel
theorem dL_law_146 : decode cL_law 146 = .ok (.iconst 0, 1) := by decide +kernel
theorem dL_law_147 : decode cL_law 147 = .ok (.iconst 0, 1) := by decide +kernel
theorem dL_law_148 : decode cL_law 148 = .ok (.iconst 1, 1) := by decide +kernel
theorem dL_law_149 : decode cL_law 149 = .ok (.invokestatic 243, 3) := by decide +kernel
theorem dL_law_152 : decode cL_law 152 = .ok (.ldc 52, 2) := by decide +kernel
theorem dL_law_154 : decode cL_law 154 = .ok (.if_icmp .ne 90, 3) := by decide +kernel
theorem dL_law_157 : decode cL_law 157 = .ok (.aload_n 3, 1) := by decide +kernel
theorem dL_law_158 : decode cL_law 158 = .ok (.iconst 0, 1) := by decide +kernel
theorem dL_law_159 : decode cL_law 159 = .ok (.iconst 0, 1) := by decide +kernel
theorem dL_law_160 : decode cL_law 160 = .ok (.invokestatic 246, 3) := by decide +kernel
theorem dL_law_163 : decode cL_law 163 = .ok (.ldc 101, 2) := by decide +kernel
theorem dL_law_165 : decode cL_law 165 = .ok (.if_icmp .ne 79, 3) := by decide +kernel
theorem dL_law_168 : decode cL_law 168 = .ok (.aload_n 3, 1) := by decide +kernel
theorem dL_law_169 : decode cL_law 169 = .ok (.iconst 0, 1) := by decide +kernel
theorem dL_law_170 : decode cL_law 170 = .ok (.iconst 0, 1) := by decide +kernel
theorem dL_law_171 : decode cL_law 171 = .ok (.invokestatic 248, 3) := by decide +kernel
theorem dL_law_174 : decode cL_law 174 = .ok (.ldc 101, 2) := by decide +kernel
theorem dL_law_176 : decode cL_law 176 = .ok (.if_icmp .ne 68, 3) := by decide +kernel
theorem dL_law_179 : decode cL_law 179 = .ok (.aload_n 3, 1) := by decide +kernel
theorem dL_law_180 : decode cL_law 180 = .ok (.iconst 0, 1) := by decide +kernel
theorem dL_law_181 : decode cL_law 181 = .ok (.iconst 0, 1) := by decide +kernel
theorem dL_law_182 : decode cL_law 182 = .ok (.iconst 1, 1) := by decide +kernel
theorem dL_law_183 : decode cL_law 183 = .ok (.iconst 0, 1) := by decide +kernel
theorem dL_law_184 : decode cL_law 184 = .ok (.invokestatic 250, 3) := by decide +kernel
theorem dL_law_187 : decode cL_law 187 = .ok (.ldc 42, 2) := by decide +kernel
theorem dL_law_189 : decode cL_law 189 = .ok (.if_icmp .ne 55, 3) := by decide +kernel
theorem dL_law_192 : decode cL_law 192 = .ok (.aload_n 3, 1) := by decide +kernel
theorem dL_law_193 : decode cL_law 193 = .ok (.bipush 21, 2) := by decide +kernel
theorem dL_law_195 : decode cL_law 195 = .ok (.invokestatic 253, 3) := by decide +kernel
theorem dL_law_198 : decode cL_law 198 = .ok (.ldc 42, 2) := by decide +kernel
theorem dL_law_200 : decode cL_law 200 = .ok (.if_icmp .ne 44, 3) := by decide +kernel
theorem dL_law_203 : decode cL_law 203 = .ok (.aload_n 3, 1) := by decide +kernel
theorem dL_law_204 : decode cL_law 204 = .ok (.iconst 1, 1) := by decide +kernel
theorem dL_law_205 : decode cL_law 205 = .ok (.invokestatic 253, 3) := by decide +kernel
theorem dL_law_208 : decode cL_law 208 = .ok (.ifCond .ne 36, 3) := by decide +kernel
theorem dL_law_211 : decode cL_law 211 = .ok (.aload_n 3, 1) := by decide +kernel
theorem dL_law_212 : decode cL_law 212 = .ok (.iconst 4, 1) := by decide +kernel
theorem dL_law_213 : decode cL_law 213 = .ok (.iconst 4, 1) := by decide +kernel
theorem dL_law_214 : decode cL_law 214 = .ok (.bipush 6, 2) := by decide +kernel
theorem dL_law_216 : decode cL_law 216 = .ok (.bipush 9, 2) := by decide +kernel
theorem dL_law_218 : decode cL_law 218 = .ok (.iconst 1, 1) := by decide +kernel
theorem dL_law_219 : decode cL_law 219 = .ok (.invokestatic 237, 3) := by decide +kernel
theorem dL_law_222 : decode cL_law 222 = .ok (.ifCond .ne 22, 3) := by decide +kernel
theorem dL_law_225 : decode cL_law 225 = .ok (.aload_n 3, 1) := by decide +kernel
theorem dL_law_226 : decode cL_law 226 = .ok (.invokevirtual 234, 3) := by decide +kernel
theorem dL_law_229 : decode cL_law 229 = .ok (.iconst 1, 1) := by decide +kernel
theorem dL_law_230 : decode cL_law 230 = .ok (.if_icmp .ne 14, 3) := by decide +kernel
theorem dL_law_233 : decode cL_law 233 = .ok (.aload_n 3, 1) := by decide +kernel
theorem dL_law_234 : decode cL_law 234 = .ok (.invokevirtual 234, 3) := by decide +kernel
theorem dL_law_237 : decode cL_law 237 = .ok (.ifCond .ne 7, 3) := by decide +kernel
theorem dL_law_240 : decode cL_law 240 = .ok (.iconst 1, 1) := by decide +kernel
theorem dL_law_241 : decode cL_law 241 = .ok (.goto 4, 3) := by decide +kernel
theorem dL_law_244 : decode cL_law 244 = .ok (.iconst 0, 1) := by decide +kernel
theorem dL_law_245 : decode cL_law 245 = .ok (.istore_n 1, 1) := by decide +kernel
theorem dL_law_246 : decode cL_law 246 = .ok (.aload_n 3, 1) := by decide +kernel
theorem dL_law_247 : decode cL_law 247 = .ok (.aload 4, 2) := by decide +kernel
theorem dL_law_249 : decode cL_law 249 = .ok (.aload 5, 2) := by decide +kernel
theorem dL_law_251 : decode cL_law 251 = .ok (.invokestatic 255, 3) := by decide +kernel
theorem dL_law_254 : decode cL_law 254 = .ok (.astore 6, 2) := by decide +kernel
theorem dL_law_256 : decode cL_law 256 = .ok (.aload 6, 2) := by decide +kernel
theorem dL_law_258 : decode cL_law 258 = .ok (.ifnonnull 5, 3) := by decide +kernel
theorem dL_law_261 : decode cL_law 261 = .ok (.iconst 0, 1) := by decide +kernel
theorem dL_law_262 : decode cL_law 262 = .ok (.ireturn, 1) := by decide +kernel
theorem dL_law_263 : decode cL_law 263 = .ok (.iload_n 1, 1) := by decide +kernel
theorem dL_law_264 : decode cL_law 264 = .ok (.ifCond .eq 16, 3) := by decide +kernel
theorem dL_law_267 : decode cL_law 267 = .ok (.aload_n 3, 1) := by decide +kernel
theorem dL_law_268 : decode cL_law 268 = .ok (.aload 6, 2) := by decide +kernel
theorem dL_law_270 : decode cL_law 270 = .ok (.invokestatic 227, 3) := by decide +kernel
theorem dL_law_273 : decode cL_law 273 = .ok (.ifCond .eq 7, 3) := by decide +kernel
theorem dL_law_276 : decode cL_law 276 = .ok (.iconst 1, 1) := by decide +kernel
theorem dL_law_277 : decode cL_law 277 = .ok (.goto 4, 3) := by decide +kernel
theorem dL_law_280 : decode cL_law 280 = .ok (.iconst 0, 1) := by decide +kernel
theorem dL_law_281 : decode cL_law 281 = .ok (.istore_n 1, 1) := by decide +kernel
theorem dL_law_282 : decode cL_law 282 = .ok (.bipush 9, 2) := by decide +kernel
theorem dL_law_284 : decode cL_law 284 = .ok (.anewarray 114, 3) := by decide +kernel
theorem dL_law_287 : decode cL_law 287 = .ok (.astore 7, 2) := by decide +kernel
theorem dL_law_289 : decode cL_law 289 = .ok (.iconst 0, 1) := by decide +kernel
theorem dL_law_290 : decode cL_law 290 = .ok (.istore 8, 2) := by decide +kernel
theorem dL_law_292 : decode cL_law 292 = .ok (.iconst 0, 1) := by decide +kernel
theorem dL_law_293 : decode cL_law 293 = .ok (.istore 9, 2) := by decide +kernel
theorem dL_law_295 : decode cL_law 295 = .ok (.iload 9, 2) := by decide +kernel
theorem dL_law_297 : decode cL_law 297 = .ok (.bipush 20, 2) := by decide +kernel
theorem dL_law_299 : decode cL_law 299 = .ok (.if_icmp .ge 787, 3) := by decide +kernel
theorem dL_law_302 : decode cL_law 302 = .ok (.iload_n 1, 1) := by decide +kernel
theorem dL_law_303 : decode cL_law 303 = .ok (.ifCond .eq 783, 3) := by decide +kernel
theorem dL_law_306 : decode cL_law 306 = .ok (.aload 6, 2) := by decide +kernel
theorem dL_law_308 : decode cL_law 308 = .ok (.invokevirtual 259, 3) := by decide +kernel
theorem dL_law_311 : decode cL_law 311 = .ok (.astore 10, 2) := by decide +kernel
theorem dL_law_313 : decode cL_law 313 = .ok (.iconst 1, 1) := by decide +kernel
theorem dL_law_314 : decode cL_law 314 = .ok (.istore 11, 2) := by decide +kernel
theorem dL_law_316 : decode cL_law 316 = .ok (.aload 5, 2) := by decide +kernel
theorem dL_law_318 : decode cL_law 318 = .ok (.aload 6, 2) := by decide +kernel
theorem dL_law_320 : decode cL_law 320 = .ok (.getfield 122, 3) := by decide +kernel
theorem dL_law_323 : decode cL_law 323 = .ok (.invokevirtual 117, 3) := by decide +kernel
theorem dL_law_326 : decode cL_law 326 = .ok (.istore 12, 2) := by decide +kernel
theorem dL_law_328 : decode cL_law 328 = .ok (.aload 5, 2) := by decide +kernel
theorem dL_law_330 : decode cL_law 330 = .ok (.aload 6, 2) := by decide +kernel
theorem dL_law_332 : decode cL_law 332 = .ok (.getfield 126, 3) := by decide +kernel
theorem dL_law_335 : decode cL_law 335 = .ok (.invokevirtual 117, 3) := by decide +kernel
theorem dL_law_338 : decode cL_law 338 = .ok (.istore 13, 2) := by decide +kernel
theorem dL_law_340 : decode cL_law 340 = .ok (.aload 6, 2) := by decide +kernel
theorem dL_law_342 : decode cL_law 342 = .ok (.iload 12, 2) := by decide +kernel
theorem dL_law_344 : decode cL_law 344 = .ok (.iload 13, 2) := by decide +kernel
theorem dL_law_346 : decode cL_law 346 = .ok (.invokevirtual 167, 3) := by decide +kernel
theorem dL_law_349 : decode cL_law 349 = .ok (.astore 14, 2) := by decide +kernel
theorem dL_law_351 : decode cL_law 351 = .ok (.aload 14, 2) := by decide +kernel
theorem dL_law_353 : decode cL_law 353 = .ok (.ifnull 7, 3) := by decide +kernel
theorem dL_law_356 : decode cL_law 356 = .ok (.iconst 1, 1) := by decide +kernel
theorem dL_law_357 : decode cL_law 357 = .ok (.goto 4, 3) := by decide +kernel
theorem dL_law_360 : decode cL_law 360 = .ok (.iconst 0, 1) := by decide +kernel
theorem dL_law_361 : decode cL_law 361 = .ok (.istore 15, 2) := by decide +kernel
theorem dL_law_363 : decode cL_law 363 = .ok (.iconst 1, 1) := by decide +kernel
theorem dL_law_364 : decode cL_law 364 = .ok (.aload 5, 2) := by decide +kernel
theorem dL_law_366 : decode cL_law 366 = .ok (.bipush 7, 2) := by decide +kernel
theorem dL_law_368 : decode cL_law 368 = .ok (.invokevirtual 117, 3) := by decide +kernel
theorem dL_law_371 : decode cL_law 371 = .ok (.iadd, 1) := by decide +kernel
theorem dL_law_372 : decode cL_law 372 = .ok (.istore 16, 2) := by decide +kernel
theorem dL_law_374 : decode cL_law 374 = .ok (.aload 5, 2) := by decide +kernel
theorem dL_law_376 : decode cL_law 376 = .ok (.bipush 9, 2) := by decide +kernel
theorem dL_law_378 : decode cL_law 378 = .ok (.invokevirtual 117, 3) := by decide +kernel
theorem dL_law_381 : decode cL_law 381 = .ok (.tableswitch 583 0 6 #[43, 43, 158, 258, 365, 440, 516], 43) := by decide +kernel
theorem dL_law_424 : decode cL_law 424 = .ok (.iconst 1, 1) := by decide +kernel
theorem dL_law_425 : decode cL_law 425 = .ok (.aload 5, 2) := by decide +kernel
theorem dL_law_427 : decode cL_law 427 = .ok (.bipush 9, 2) := by decide +kernel
theorem dL_law_429 : decode cL_law 429 = .ok (.invokevirtual 117, 3) := by decide +kernel
theorem dL_law_432 : decode cL_law 432 = .ok (.iadd, 1) := by decide +kernel
theorem dL_law_433 : decode cL_law 433 = .ok (.istore 17, 2) := by decide +kernel
theorem dL_law_435 : decode cL_law 435 = .ok (.aload 5, 2) := by decide +kernel
theorem dL_law_437 : decode cL_law 437 = .ok (.iconst 2, 1) := by decide +kernel
theorem dL_law_438 : decode cL_law 438 = .ok (.invokevirtual 117, 3) := by decide +kernel
theorem dL_law_441 : decode cL_law 441 = .ok (.ifCond .ne 7, 3) := by decide +kernel
theorem dL_law_444 : decode cL_law 444 = .ok (.iconst 1, 1) := by decide +kernel
theorem dL_law_445 : decode cL_law 445 = .ok (.goto 4, 3) := by decide +kernel
theorem dL_law_448 : decode cL_law 448 = .ok (.iconst 0, 1) := by decide +kernel
theorem dL_law_449 : decode cL_law 449 = .ok (.istore 18, 2) := by decide +kernel
theorem dL_law_451 : decode cL_law 451 = .ok (.iload 15, 2) := by decide +kernel
theorem dL_law_453 : decode cL_law 453 = .ok (.ifCond .eq 14, 3) := by decide +kernel
theorem dL_law_456 : decode cL_law 456 = .ok (.iload 16, 2) := by decide +kernel
theorem dL_law_458 : decode cL_law 458 = .ok (.bipush 7, 2) := by decide +kernel
theorem dL_law_460 : decode cL_law 460 = .ok (.if_icmp .ge 7, 3) := by decide +kernel
theorem dL_law_463 : decode cL_law 463 = .ok (.iconst 1, 1) := by decide +kernel
theorem dL_law_464 : decode cL_law 464 = .ok (.goto 4, 3) := by decide +kernel
theorem dL_law_467 : decode cL_law 467 = .ok (.iconst 0, 1) := by decide +kernel
theorem dL_law_468 : decode cL_law 468 = .ok (.istore 11, 2) := by decide +kernel
theorem dL_law_470 : decode cL_law 470 = .ok (.iload 11, 2) := by decide +kernel
theorem dL_law_472 : decode cL_law 472 = .ok (.ifCond .eq 16, 3) := by decide +kernel
theorem dL_law_475 : decode cL_law 475 = .ok (.aload 6, 2) := by decide +kernel
theorem dL_law_477 : decode cL_law 477 = .ok (.aload 14, 2) := by decide +kernel
theorem dL_law_479 : decode cL_law 479 = .ok (.iload 16, 2) := by decide +kernel
theorem dL_law_481 : decode cL_law 481 = .ok (.iload 17, 2) := by decide +kernel
theorem dL_law_483 : decode cL_law 483 = .ok (.iload 18, 2) := by decide +kernel
theorem dL_law_485 : decode cL_law 485 = .ok (.invokevirtual 263, 3) := by decide +kernel
theorem dL_law_488 : decode cL_law 488 = .ok (.aload_n 3, 1) := by decide +kernel
theorem dL_law_489 : decode cL_law 489 = .ok (.iload 12, 2) := by decide +kernel
theorem dL_law_491 : decode cL_law 491 = .ok (.iload 13, 2) := by decide +kernel
theorem dL_law_493 : decode cL_law 493 = .ok (.iload 16, 2) := by decide +kernel
theorem dL_law_495 : decode cL_law 495 = .ok (.iload 17, 2) := by decide +kernel
theorem dL_law_497 : decode cL_law 497 = .ok (.iload 18, 2) := by decide +kernel
theorem dL_law_499 : decode cL_law 499 = .ok (.invokestatic 237, 3) := by decide +kernel
theorem dL_law_502 : decode cL_law 502 = .ok (.iload 11, 2) := by decide +kernel
theorem dL_law_504 : decode cL_law 504 = .ok (.ifCond .eq 11, 3) := by decide +kernel
theorem dL_law_507 : decode cL_law 507 = .ok (.aload 6, 2) := by decide +kernel
theorem dL_law_509 : decode cL_law 509 = .ok (.invokevirtual 267, 3) := by decide +kernel
theorem dL_law_512 : decode cL_law 512 = .ok (.goto 15, 3) := by decide +kernel
theorem dL_law_515 : decode cL_law 515 = .ok (.iload 15, 2) := by decide +kernel
theorem dL_law_517 : decode cL_law 517 = .ok (.ifCond .eq 8, 3) := by decide +kernel
theorem dL_law_520 : decode cL_law 520 = .ok (.ldc 42, 2) := by decide +kernel
theorem dL_law_522 : decode cL_law 522 = .ok (.goto 5, 3) := by decide +kernel
theorem dL_law_525 : decode cL_law 525 = .ok (.ldc 52, 2) := by decide +kernel
theorem dL_law_527 : decode cL_law 527 = .ok (.if_icmp .ne 7, 3) := by decide +kernel
theorem dL_law_530 : decode cL_law 530 = .ok (.iconst 1, 1) := by decide +kernel
theorem dL_law_531 : decode cL_law 531 = .ok (.goto 4, 3) := by decide +kernel
theorem dL_law_534 : decode cL_law 534 = .ok (.iconst 0, 1) := by decide +kernel
theorem dL_law_535 : decode cL_law 535 = .ok (.istore_n 1, 1) := by decide +kernel
theorem dL_law_536 : decode cL_law 536 = .ok (.goto 484, 3) := by decide +kernel
theorem dL_law_539 : decode cL_law 539 = .ok (.aload 5, 2) := by decide +kernel
theorem dL_law_541 : decode cL_law 541 = .ok (.iconst 4, 1) := by decide +kernel
theorem dL_law_542 : decode cL_law 542 = .ok (.invokevirtual 117, 3) := by decide +kernel
theorem dL_law_545 : decode cL_law 545 = .ok (.istore 19, 2) := by decide +kernel
theorem dL_law_547 : decode cL_law 547 = .ok (.aload 5, 2) := by decide +kernel
theorem dL_law_549 : decode cL_law 549 = .ok (.bipush 6, 2) := by decide +kernel
theorem dL_law_551 : decode cL_law 551 = .ok (.invokevirtual 117, 3) := by decide +kernel
theorem dL_law_554 : decode cL_law 554 = .ok (.istore 20, 2) := by decide +kernel
theorem dL_law_556 : decode cL_law 556 = .ok (.iload 15, 2) := by decide +kernel
theorem dL_law_558 : decode cL_law 558 = .ok (.ifCond .eq 19, 3) := by decide +kernel
theorem dL_law_561 : decode cL_law 561 = .ok (.iload 20, 2) := by decide +kernel
theorem dL_law_563 : decode cL_law 563 = .ok (.ifCond .le 14, 3) := by decide +kernel
theorem dL_law_566 : decode cL_law 566 = .ok (.iload 16, 2) := by decide +kernel
theorem dL_law_568 : decode cL_law 568 = .ok (.bipush 7, 2) := by decide +kernel
theorem dL_law_570 : decode cL_law 570 = .ok (.if_icmp .ge 7, 3) := by decide +kernel
theorem dL_law_573 : decode cL_law 573 = .ok (.iconst 1, 1) := by decide +kernel
theorem dL_law_574 : decode cL_law 574 = .ok (.goto 4, 3) := by decide +kernel
theorem dL_law_577 : decode cL_law 577 = .ok (.iconst 0, 1) := by decide +kernel
theorem dL_law_578 : decode cL_law 578 = .ok (.istore 11, 2) := by decide +kernel
theorem dL_law_580 : decode cL_law 580 = .ok (.aload_n 3, 1) := by decide +kernel
theorem dL_law_581 : decode cL_law 581 = .ok (.iload 12, 2) := by decide +kernel
theorem dL_law_583 : decode cL_law 583 = .ok (.iload 13, 2) := by decide +kernel
theorem dL_law_585 : decode cL_law 585 = .ok (.iload 19, 2) := by decide +kernel
theorem dL_law_587 : decode cL_law 587 = .ok (.iload 20, 2) := by decide +kernel
theorem dL_law_589 : decode cL_law 589 = .ok (.iload 16, 2) := by decide +kernel
theorem dL_law_591 : decode cL_law 591 = .ok (.invokestatic 240, 3) := by decide +kernel
theorem dL_law_594 : decode cL_law 594 = .ok (.iload 11, 2) := by decide +kernel
theorem dL_law_596 : decode cL_law 596 = .ok (.ifCond .eq 19, 3) := by decide +kernel
theorem dL_law_599 : decode cL_law 599 = .ok (.aload 6, 2) := by decide +kernel
theorem dL_law_601 : decode cL_law 601 = .ok (.aload 14, 2) := by decide +kernel
theorem dL_law_603 : decode cL_law 603 = .ok (.iload 19, 2) := by decide +kernel
theorem dL_law_605 : decode cL_law 605 = .ok (.iload 20, 2) := by decide +kernel
theorem dL_law_607 : decode cL_law 607 = .ok (.iload 16, 2) := by decide +kernel
theorem dL_law_609 : decode cL_law 609 = .ok (.invokevirtual 270, 3) := by decide +kernel
theorem dL_law_612 : decode cL_law 612 = .ok (.goto 15, 3) := by decide +kernel
theorem dL_law_615 : decode cL_law 615 = .ok (.iload 15, 2) := by decide +kernel
theorem dL_law_617 : decode cL_law 617 = .ok (.ifCond .eq 8, 3) := by decide +kernel
theorem dL_law_620 : decode cL_law 620 = .ok (.ldc 42, 2) := by decide +kernel
theorem dL_law_622 : decode cL_law 622 = .ok (.goto 5, 3) := by decide +kernel
theorem dL_law_625 : decode cL_law 625 = .ok (.ldc 52, 2) := by decide +kernel
theorem dL_law_627 : decode cL_law 627 = .ok (.if_icmp .ne 7, 3) := by decide +kernel
theorem dL_law_630 : decode cL_law 630 = .ok (.iconst 1, 1) := by decide +kernel
theorem dL_law_631 : decode cL_law 631 = .ok (.goto 4, 3) := by decide +kernel
theorem dL_law_634 : decode cL_law 634 = .ok (.iconst 0, 1) := by decide +kernel
theorem dL_law_635 : decode cL_law 635 = .ok (.istore_n 1, 1) := by decide +kernel
theorem dL_law_636 : decode cL_law 636 = .ok (.goto 384, 3) := by decide +kernel
theorem dL_law_639 : decode cL_law 639 = .ok (.aload 5, 2) := by decide +kernel
theorem dL_law_641 : decode cL_law 641 = .ok (.aload 6, 2) := by decide +kernel
theorem dL_law_643 : decode cL_law 643 = .ok (.getfield 179, 3) := by decide +kernel
theorem dL_law_646 : decode cL_law 646 = .ok (.arraylength, 1) := by decide +kernel
theorem dL_law_647 : decode cL_law 647 = .ok (.iconst 1, 1) := by decide +kernel
theorem dL_law_648 : decode cL_law 648 = .ok (.iadd, 1) := by decide +kernel
theorem dL_law_649 : decode cL_law 649 = .ok (.invokevirtual 117, 3) := by decide +kernel
theorem dL_law_652 : decode cL_law 652 = .ok (.istore 21, 2) := by decide +kernel
theorem dL_law_654 : decode cL_law 654 = .ok (.aload 5, 2) := by decide +kernel
theorem dL_law_656 : decode cL_law 656 = .ok (.iconst 2, 1) := by decide +kernel
theorem dL_law_657 : decode cL_law 657 = .ok (.invokevirtual 117, 3) := by decide +kernel
theorem dL_law_660 : decode cL_law 660 = .ok (.ifCond .ne 7, 3) := by decide +kernel
theorem dL_law_663 : decode cL_law 663 = .ok (.iconst 1, 1) := by decide +kernel
theorem dL_law_664 : decode cL_law 664 = .ok (.goto 4, 3) := by decide +kernel
theorem dL_law_667 : decode cL_law 667 = .ok (.iconst 0, 1) := by decide +kernel
theorem dL_law_668 : decode cL_law 668 = .ok (.istore 22, 2) := by decide +kernel
theorem dL_law_670 : decode cL_law 670 = .ok (.iload 15, 2) := by decide +kernel
theorem dL_law_672 : decode cL_law 672 = .ok (.ifCond .eq 18, 3) := by decide +kernel
theorem dL_law_675 : decode cL_law 675 = .ok (.iload 21, 2) := by decide +kernel
theorem dL_law_677 : decode cL_law 677 = .ok (.aload 6, 2) := by decide +kernel
theorem dL_law_679 : decode cL_law 679 = .ok (.getfield 179, 3) := by decide +kernel
theorem dL_law_682 : decode cL_law 682 = .ok (.arraylength, 1) := by decide +kernel
theorem dL_law_683 : decode cL_law 683 = .ok (.if_icmp .ge 7, 3) := by decide +kernel
theorem dL_law_686 : decode cL_law 686 = .ok (.iconst 1, 1) := by decide +kernel
theorem dL_law_687 : decode cL_law 687 = .ok (.goto 4, 3) := by decide +kernel
theorem dL_law_690 : decode cL_law 690 = .ok (.iconst 0, 1) := by decide +kernel
theorem dL_law_691 : decode cL_law 691 = .ok (.istore 11, 2) := by decide +kernel
theorem dL_law_693 : decode cL_law 693 = .ok (.aload_n 3, 1) := by decide +kernel
theorem dL_law_694 : decode cL_law 694 = .ok (.iload 21, 2) := by decide +kernel
theorem dL_law_696 : decode cL_law 696 = .ok (.iload 12, 2) := by decide +kernel
theorem dL_law_698 : decode cL_law 698 = .ok (.iload 13, 2) := by decide +kernel
theorem dL_law_700 : decode cL_law 700 = .ok (.iload 22, 2) := by decide +kernel
theorem dL_law_702 : decode cL_law 702 = .ok (.invokestatic 243, 3) := by decide +kernel
theorem dL_law_705 : decode cL_law 705 = .ok (.iload 11, 2) := by decide +kernel
theorem dL_law_707 : decode cL_law 707 = .ok (.ifCond .eq 25, 3) := by decide +kernel
theorem dL_law_710 : decode cL_law 710 = .ok (.aload 6, 2) := by decide +kernel
theorem dL_law_712 : decode cL_law 712 = .ok (.aload 6, 2) := by decide +kernel
theorem dL_law_714 : decode cL_law 714 = .ok (.getfield 179, 3) := by decide +kernel
theorem dL_law_717 : decode cL_law 717 = .ok (.iload 21, 2) := by decide +kernel
theorem dL_law_719 : decode cL_law 719 = .ok (.aaload, 1) := by decide +kernel
theorem dL_law_720 : decode cL_law 720 = .ok (.iload 12, 2) := by decide +kernel
theorem dL_law_722 : decode cL_law 722 = .ok (.iload 13, 2) := by decide +kernel
theorem dL_law_724 : decode cL_law 724 = .ok (.iload 22, 2) := by decide +kernel
theorem dL_law_726 : decode cL_law 726 = .ok (.invokevirtual 274, 3) := by decide +kernel
theorem dL_law_729 : decode cL_law 729 = .ok (.goto 5, 3) := by decide +kernel
theorem dL_law_732 : decode cL_law 732 = .ok (.ldc 52, 2) := by decide +kernel
theorem dL_law_734 : decode cL_law 734 = .ok (.if_icmp .ne 7, 3) := by decide +kernel
theorem dL_law_737 : decode cL_law 737 = .ok (.iconst 1, 1) := by decide +kernel
theorem dL_law_738 : decode cL_law 738 = .ok (.goto 4, 3) := by decide +kernel
theorem dL_law_741 : decode cL_law 741 = .ok (.iconst 0, 1) := by decide +kernel
theorem dL_law_742 : decode cL_law 742 = .ok (.istore_n 1, 1) := by decide +kernel
theorem dL_law_743 : decode cL_law 743 = .ok (.goto 277, 3) := by decide +kernel
theorem dL_law_746 : decode cL_law 746 = .ok (.aload 5, 2) := by decide +kernel
theorem dL_law_748 : decode cL_law 748 = .ok (.iconst 2, 1) := by decide +kernel
theorem dL_law_749 : decode cL_law 749 = .ok (.invokevirtual 117, 3) := by decide +kernel
theorem dL_law_752 : decode cL_law 752 = .ok (.ifCond .ne 7, 3) := by decide +kernel
theorem dL_law_755 : decode cL_law 755 = .ok (.iconst 1, 1) := by decide +kernel
theorem dL_law_756 : decode cL_law 756 = .ok (.goto 4, 3) := by decide +kernel
theorem dL_law_759 : decode cL_law 759 = .ok (.iconst 0, 1) := by decide +kernel
theorem dL_law_760 : decode cL_law 760 = .ok (.istore 23, 2) := by decide +kernel
theorem dL_law_762 : decode cL_law 762 = .ok (.iconst 1, 1) := by decide +kernel
theorem dL_law_763 : decode cL_law 763 = .ok (.aload 5, 2) := by decide +kernel
theorem dL_law_765 : decode cL_law 765 = .ok (.iconst 4, 1) := by decide +kernel
theorem dL_law_766 : decode cL_law 766 = .ok (.invokevirtual 117, 3) := by decide +kernel
theorem dL_law_769 : decode cL_law 769 = .ok (.iadd, 1) := by decide +kernel
theorem dL_law_770 : decode cL_law 770 = .ok (.istore 24, 2) := by decide +kernel
theorem dL_law_772 : decode cL_law 772 = .ok (.iload 15, 2) := by decide +kernel
theorem dL_law_774 : decode cL_law 774 = .ok (.istore 11, 2) := by decide +kernel
theorem dL_law_776 : decode cL_law 776 = .ok (.aload_n 3, 1) := by decide +kernel
theorem dL_law_777 : decode cL_law 777 = .ok (.iload 12, 2) := by decide +kernel
theorem dL_law_779 : decode cL_law 779 = .ok (.iload 13, 2) := by decide +kernel
theorem dL_law_781 : decode cL_law 781 = .ok (.iload 23, 2) := by decide +kernel
theorem dL_law_783 : decode cL_law 783 = .ok (.iload 24, 2) := by decide +kernel
theorem dL_law_785 : decode cL_law 785 = .ok (.invokestatic 250, 3) := by decide +kernel
theorem dL_law_788 : decode cL_law 788 = .ok (.iload 15, 2) := by decide +kernel
theorem dL_law_790 : decode cL_law 790 = .ok (.ifCond .eq 17, 3) := by decide +kernel
theorem dL_law_793 : decode cL_law 793 = .ok (.aload 6, 2) := by decide +kernel
theorem dL_law_795 : decode cL_law 795 = .ok (.aload 14, 2) := by decide +kernel
theorem dL_law_797 : decode cL_law 797 = .ok (.iload 23, 2) := by decide +kernel
theorem dL_law_799 : decode cL_law 799 = .ok (.iload 24, 2) := by decide +kernel
theorem dL_law_801 : decode cL_law 801 = .ok (.invokevirtual 278, 3) := by decide +kernel
theorem dL_law_804 : decode cL_law 804 = .ok (.goto 5, 3) := by decide +kernel
theorem dL_law_807 : decode cL_law 807 = .ok (.ldc 52, 2) := by decide +kernel
theorem dL_law_809 : decode cL_law 809 = .ok (.if_icmp .ne 7, 3) := by decide +kernel
theorem dL_law_812 : decode cL_law 812 = .ok (.iconst 1, 1) := by decide +kernel
theorem dL_law_813 : decode cL_law 813 = .ok (.goto 4, 3) := by decide +kernel
theorem dL_law_816 : decode cL_law 816 = .ok (.iconst 0, 1) := by decide +kernel
theorem dL_law_817 : decode cL_law 817 = .ok (.istore_n 1, 1) := by decide +kernel
theorem dL_law_818 : decode cL_law 818 = .ok (.goto 202, 3) := by decide +kernel
theorem dL_law_821 : decode cL_law 821 = .ok (.iload 15, 2) := by decide +kernel
theorem dL_law_823 : decode cL_law 823 = .ok (.ifCond .eq 15, 3) := by decide +kernel
theorem dL_law_826 : decode cL_law 826 = .ok (.aload 14, 2) := by decide +kernel
theorem dL_law_828 : decode cL_law 828 = .ok (.getfield 171, 3) := by decide +kernel
theorem dL_law_831 : decode cL_law 831 = .ok (.ifCond .eq 7, 3) := by decide +kernel
theorem dL_law_834 : decode cL_law 834 = .ok (.iconst 1, 1) := by decide +kernel
theorem dL_law_835 : decode cL_law 835 = .ok (.goto 4, 3) := by decide +kernel
theorem dL_law_838 : decode cL_law 838 = .ok (.iconst 0, 1) := by decide +kernel
theorem dL_law_839 : decode cL_law 839 = .ok (.istore 11, 2) := by decide +kernel
theorem dL_law_841 : decode cL_law 841 = .ok (.iload 11, 2) := by decide +kernel
theorem dL_law_843 : decode cL_law 843 = .ok (.ifCond .eq 9, 3) := by decide +kernel
theorem dL_law_846 : decode cL_law 846 = .ok (.aload 14, 2) := by decide +kernel
theorem dL_law_848 : decode cL_law 848 = .ok (.iconst 0, 1) := by decide +kernel
theorem dL_law_849 : decode cL_law 849 = .ok (.putfield 171, 3) := by decide +kernel
theorem dL_law_852 : decode cL_law 852 = .ok (.aload_n 3, 1) := by decide +kernel
theorem dL_law_853 : decode cL_law 853 = .ok (.iload 12, 2) := by decide +kernel
theorem dL_law_855 : decode cL_law 855 = .ok (.iload 13, 2) := by decide +kernel
theorem dL_law_857 : decode cL_law 857 = .ok (.invokestatic 246, 3) := by decide +kernel
theorem dL_law_860 : decode cL_law 860 = .ok (.iload 11, 2) := by decide +kernel
theorem dL_law_862 : decode cL_law 862 = .ok (.ifCond .eq 11, 3) := by decide +kernel
theorem dL_law_865 : decode cL_law 865 = .ok (.aload 6, 2) := by decide +kernel
theorem dL_law_867 : decode cL_law 867 = .ok (.invokevirtual 267, 3) := by decide +kernel
theorem dL_law_870 : decode cL_law 870 = .ok (.goto 15, 3) := by decide +kernel
theorem dL_law_873 : decode cL_law 873 = .ok (.iload 15, 2) := by decide +kernel
theorem dL_law_875 : decode cL_law 875 = .ok (.ifCond .eq 8, 3) := by decide +kernel
theorem dL_law_878 : decode cL_law 878 = .ok (.ldc 101, 2) := by decide +kernel
theorem dL_law_880 : decode cL_law 880 = .ok (.goto 5, 3) := by decide +kernel
theorem dL_law_883 : decode cL_law 883 = .ok (.ldc 52, 2) := by decide +kernel
theorem dL_law_885 : decode cL_law 885 = .ok (.if_icmp .ne 7, 3) := by decide +kernel
theorem dL_law_888 : decode cL_law 888 = .ok (.iconst 1, 1) := by decide +kernel
theorem dL_law_889 : decode cL_law 889 = .ok (.goto 4, 3) := by decide +kernel
theorem dL_law_892 : decode cL_law 892 = .ok (.iconst 0, 1) := by decide +kernel
theorem dL_law_893 : decode cL_law 893 = .ok (.istore_n 1, 1) := by decide +kernel
theorem dL_law_894 : decode cL_law 894 = .ok (.goto 126, 3) := by decide +kernel
theorem dL_law_897 : decode cL_law 897 = .ok (.iload 15, 2) := by decide +kernel
theorem dL_law_899 : decode cL_law 899 = .ok (.ifCond .eq 15, 3) := by decide +kernel
theorem dL_law_902 : decode cL_law 902 = .ok (.aload 14, 2) := by decide +kernel
theorem dL_law_904 : decode cL_law 904 = .ok (.getfield 282, 3) := by decide +kernel
theorem dL_law_907 : decode cL_law 907 = .ok (.ifCond .le 7, 3) := by decide +kernel
theorem dL_law_910 : decode cL_law 910 = .ok (.iconst 1, 1) := by decide +kernel
theorem dL_law_911 : decode cL_law 911 = .ok (.goto 4, 3) := by decide +kernel
theorem dL_law_914 : decode cL_law 914 = .ok (.iconst 0, 1) := by decide +kernel
theorem dL_law_915 : decode cL_law 915 = .ok (.istore 11, 2) := by decide +kernel
theorem dL_law_917 : decode cL_law 917 = .ok (.aload_n 3, 1) := by decide +kernel
theorem dL_law_918 : decode cL_law 918 = .ok (.iload 12, 2) := by decide +kernel
theorem dL_law_920 : decode cL_law 920 = .ok (.iload 13, 2) := by decide +kernel
theorem dL_law_922 : decode cL_law 922 = .ok (.invokestatic 248, 3) := by decide +kernel
theorem dL_law_925 : decode cL_law 925 = .ok (.iload 11, 2) := by decide +kernel
theorem dL_law_927 : decode cL_law 927 = .ok (.ifCond .eq 13, 3) := by decide +kernel
theorem dL_law_930 : decode cL_law 930 = .ok (.aload 6, 2) := by decide +kernel
theorem dL_law_932 : decode cL_law 932 = .ok (.aload 14, 2) := by decide +kernel
theorem dL_law_934 : decode cL_law 934 = .ok (.invokevirtual 284, 3) := by decide +kernel
theorem dL_law_937 : decode cL_law 937 = .ok (.goto 15, 3) := by decide +kernel
theorem dL_law_940 : decode cL_law 940 = .ok (.iload 15, 2) := by decide +kernel
theorem dL_law_942 : decode cL_law 942 = .ok (.ifCond .eq 8, 3) := by decide +kernel
theorem dL_law_945 : decode cL_law 945 = .ok (.ldc 101, 2) := by decide +kernel
theorem dL_law_947 : decode cL_law 947 = .ok (.goto 5, 3) := by decide +kernel
theorem dL_law_950 : decode cL_law 950 = .ok (.ldc 52, 2) := by decide +kernel
theorem dL_law_952 : decode cL_law 952 = .ok (.if_icmp .ne 7, 3) := by decide +kernel
theorem dL_law_955 : decode cL_law 955 = .ok (.iconst 1, 1) := by decide +kernel
theorem dL_law_956 : decode cL_law 956 = .ok (.goto 4, 3) := by decide +kernel
theorem dL_law_959 : decode cL_law 959 = .ok (.iconst 0, 1) := by decide +kernel
theorem dL_law_960 : decode cL_law 960 = .ok (.istore_n 1, 1) := by decide +kernel
theorem dL_law_961 : decode cL_law 961 = .ok (.goto 59, 3) := by decide +kernel
theorem dL_law_964 : decode cL_law 964 = .ok (.iconst 1, 1) := by decide +kernel
theorem dL_law_965 : decode cL_law 965 = .ok (.aload 5, 2) := by decide +kernel
theorem dL_law_967 : decode cL_law 967 = .ok (.iconst 4, 1) := by decide +kernel
theorem dL_law_968 : decode cL_law 968 = .ok (.invokevirtual 117, 3) := by decide +kernel
theorem dL_law_971 : decode cL_law 971 = .ok (.iadd, 1) := by decide +kernel
theorem dL_law_972 : decode cL_law 972 = .ok (.istore 25, 2) := by decide +kernel
theorem dL_law_974 : decode cL_law 974 = .ok (.iconst 0, 1) := by decide +kernel
theorem dL_law_975 : decode cL_law 975 = .ok (.istore 26, 2) := by decide +kernel
theorem dL_law_977 : decode cL_law 977 = .ok (.iconst 0, 1) := by decide +kernel
theorem dL_law_978 : decode cL_law 978 = .ok (.istore 27, 2) := by decide +kernel
theorem dL_law_980 : decode cL_law 980 = .ok (.iload 27, 2) := by decide +kernel
theorem dL_law_982 : decode cL_law 982 = .ok (.iload 25, 2) := by decide +kernel
theorem dL_law_984 : decode cL_law 984 = .ok (.if_icmp .ge 19, 3) := by decide +kernel
theorem dL_law_987 : decode cL_law 987 = .ok (.iload 26, 2) := by decide +kernel
theorem dL_law_989 : decode cL_law 989 = .ok (.aload 6, 2) := by decide +kernel
theorem dL_law_991 : decode cL_law 991 = .ok (.invokevirtual 288, 3) := by decide +kernel
theorem dL_law_994 : decode cL_law 994 = .ok (.iadd, 1) := by decide +kernel
theorem dL_law_995 : decode cL_law 995 = .ok (.istore 26, 2) := by decide +kernel
theorem dL_law_997 : decode cL_law 997 = .ok (.iinc 27 1, 3) := by decide +kernel
theorem dL_law_1000 : decode cL_law 1000 = .ok (.goto (-20), 3) := by decide +kernel
theorem dL_law_1003 : decode cL_law 1003 = .ok (.aload_n 3, 1) := by decide +kernel
theorem dL_law_1004 : decode cL_law 1004 = .ok (.iload 25, 2) := by decide +kernel
theorem dL_law_1006 : decode cL_law 1006 = .ok (.invokestatic 253, 3) := by decide +kernel
theorem dL_law_1009 : decode cL_law 1009 = .ok (.iload 26, 2) := by decide +kernel
theorem dL_law_1011 : decode cL_law 1011 = .ok (.if_icmp .ne 7, 3) := by decide +kernel
theorem dL_law_1014 : decode cL_law 1014 = .ok (.iconst 1, 1) := by decide +kernel
theorem dL_law_1015 : decode cL_law 1015 = .ok (.goto 4, 3) := by decide +kernel
theorem dL_law_1018 : decode cL_law 1018 = .ok (.iconst 0, 1) := by decide +kernel
theorem dL_law_1019 : decode cL_law 1019 = .ok (.istore_n 1, 1) := by decide +kernel
theorem dL_law_1020 : decode cL_law 1020 = .ok (.iload 11, 2) := by decide +kernel
theorem dL_law_1022 : decode cL_law 1022 = .ok (.ifCond .eq 39, 3) := by decide +kernel
theorem dL_law_1025 : decode cL_law 1025 = .ok (.bipush 8, 2) := by decide +kernel
theorem dL_law_1027 : decode cL_law 1027 = .ok (.istore 17, 2) := by decide +kernel
theorem dL_law_1029 : decode cL_law 1029 = .ok (.iload 17, 2) := by decide +kernel
theorem dL_law_1031 : decode cL_law 1031 = .ok (.ifCond .le 21, 3) := by decide +kernel
theorem dL_law_1034 : decode cL_law 1034 = .ok (.aload 7, 2) := by decide +kernel
theorem dL_law_1036 : decode cL_law 1036 = .ok (.iload 17, 2) := by decide +kernel
theorem dL_law_1038 : decode cL_law 1038 = .ok (.aload 7, 2) := by decide +kernel
theorem dL_law_1040 : decode cL_law 1040 = .ok (.iload 17, 2) := by decide +kernel
theorem dL_law_1042 : decode cL_law 1042 = .ok (.iconst 1, 1) := by decide +kernel
theorem dL_law_1043 : decode cL_law 1043 = .ok (.isub, 1) := by decide +kernel
theorem dL_law_1044 : decode cL_law 1044 = .ok (.aaload, 1) := by decide +kernel
theorem dL_law_1045 : decode cL_law 1045 = .ok (.aastore, 1) := by decide +kernel
theorem dL_law_1046 : decode cL_law 1046 = .ok (.iinc 17 (-1), 3) := by decide +kernel
theorem dL_law_1049 : decode cL_law 1049 = .ok (.goto (-20), 3) := by decide +kernel
theorem dL_law_1052 : decode cL_law 1052 = .ok (.aload 7, 2) := by decide +kernel
theorem dL_law_1054 : decode cL_law 1054 = .ok (.iconst 0, 1) := by decide +kernel
theorem dL_law_1055 : decode cL_law 1055 = .ok (.aload 10, 2) := by decide +kernel
theorem dL_law_1057 : decode cL_law 1057 = .ok (.aastore, 1) := by decide +kernel
theorem dL_law_1058 : decode cL_law 1058 = .ok (.iinc 8 1, 3) := by decide +kernel
theorem dL_law_1061 : decode cL_law 1061 = .ok (.iload_n 1, 1) := by decide +kernel
theorem dL_law_1062 : decode cL_law 1062 = .ok (.ifCond .eq 16, 3) := by decide +kernel
theorem dL_law_1065 : decode cL_law 1065 = .ok (.aload_n 3, 1) := by decide +kernel
theorem dL_law_1066 : decode cL_law 1066 = .ok (.aload 6, 2) := by decide +kernel
theorem dL_law_1068 : decode cL_law 1068 = .ok (.invokestatic 227, 3) := by decide +kernel
theorem dL_law_1071 : decode cL_law 1071 = .ok (.ifCond .eq 7, 3) := by decide +kernel
theorem dL_law_1074 : decode cL_law 1074 = .ok (.iconst 1, 1) := by decide +kernel
theorem dL_law_1075 : decode cL_law 1075 = .ok (.goto 4, 3) := by decide +kernel
theorem dL_law_1078 : decode cL_law 1078 = .ok (.iconst 0, 1) := by decide +kernel
theorem dL_law_1079 : decode cL_law 1079 = .ok (.istore_n 1, 1) := by decide +kernel
theorem dL_law_1080 : decode cL_law 1080 = .ok (.iinc 9 1, 3) := by decide +kernel
theorem dL_law_1083 : decode cL_law 1083 = .ok (.goto (-788), 3) := by decide +kernel
theorem dL_law_1086 : decode cL_law 1086 = .ok (.iconst 0, 1) := by decide +kernel
theorem dL_law_1087 : decode cL_law 1087 = .ok (.istore 9, 2) := by decide +kernel
theorem dL_law_1089 : decode cL_law 1089 = .ok (.iload 9, 2) := by decide +kernel
theorem dL_law_1091 : decode cL_law 1091 = .ok (.bipush 8, 2) := by decide +kernel
theorem dL_law_1093 : decode cL_law 1093 = .ok (.if_icmp .ge 45, 3) := by decide +kernel
theorem dL_law_1096 : decode cL_law 1096 = .ok (.iload 9, 2) := by decide +kernel
theorem dL_law_1098 : decode cL_law 1098 = .ok (.iload 8, 2) := by decide +kernel
theorem dL_law_1100 : decode cL_law 1100 = .ok (.if_icmp .ge 38, 3) := by decide +kernel
theorem dL_law_1103 : decode cL_law 1103 = .ok (.iload_n 1, 1) := by decide +kernel
theorem dL_law_1104 : decode cL_law 1104 = .ok (.ifCond .eq 34, 3) := by decide +kernel
theorem dL_law_1107 : decode cL_law 1107 = .ok (.aload_n 3, 1) := by decide +kernel
theorem dL_law_1108 : decode cL_law 1108 = .ok (.invokevirtual 234, 3) := by decide +kernel
theorem dL_law_1111 : decode cL_law 1111 = .ok (.ifCond .lt 19, 3) := by decide +kernel
theorem dL_law_1114 : decode cL_law 1114 = .ok (.aload_n 3, 1) := by decide +kernel
theorem dL_law_1115 : decode cL_law 1115 = .ok (.aload 7, 2) := by decide +kernel
theorem dL_law_1117 : decode cL_law 1117 = .ok (.iload 9, 2) := by decide +kernel
theorem dL_law_1119 : decode cL_law 1119 = .ok (.aaload, 1) := by decide +kernel
theorem dL_law_1120 : decode cL_law 1120 = .ok (.invokestatic 227, 3) := by decide +kernel
theorem dL_law_1123 : decode cL_law 1123 = .ok (.ifCond .eq 7, 3) := by decide +kernel
theorem dL_law_1126 : decode cL_law 1126 = .ok (.iconst 1, 1) := by decide +kernel
theorem dL_law_1127 : decode cL_law 1127 = .ok (.goto 4, 3) := by decide +kernel
theorem dL_law_1130 : decode cL_law 1130 = .ok (.iconst 0, 1) := by decide +kernel
theorem dL_law_1131 : decode cL_law 1131 = .ok (.istore_n 1, 1) := by decide +kernel
theorem dL_law_1132 : decode cL_law 1132 = .ok (.iinc 9 1, 3) := by decide +kernel
theorem dL_law_1135 : decode cL_law 1135 = .ok (.goto (-46), 3) := by decide +kernel
theorem dL_law_1138 : decode cL_law 1138 = .ok (.iload_n 1, 1) := by decide +kernel
theorem dL_law_1139 : decode cL_law 1139 = .ok (.ifCond .eq 97, 3) := by decide +kernel
theorem dL_law_1142 : decode cL_law 1142 = .ok (.aload_n 3, 1) := by decide +kernel
theorem dL_law_1143 : decode cL_law 1143 = .ok (.sipush 601, 3) := by decide +kernel
theorem dL_law_1146 : decode cL_law 1146 = .ok (.invokestatic 19, 3) := by decide +kernel
theorem dL_law_1149 : decode cL_law 1149 = .ok (.ldc 42, 2) := by decide +kernel
theorem dL_law_1151 : decode cL_law 1151 = .ok (.if_icmp .ne 85, 3) := by decide +kernel
theorem dL_law_1154 : decode cL_law 1154 = .ok (.aload_n 3, 1) := by decide +kernel
theorem dL_law_1155 : decode cL_law 1155 = .ok (.iconst 0, 1) := by decide +kernel
theorem dL_law_1156 : decode cL_law 1156 = .ok (.iconst 1, 1) := by decide +kernel
theorem dL_law_1157 : decode cL_law 1157 = .ok (.invokestatic 291, 3) := by decide +kernel
theorem dL_law_1160 : decode cL_law 1160 = .ok (.ldc 42, 2) := by decide +kernel
theorem dL_law_1162 : decode cL_law 1162 = .ok (.if_icmp .ne 74, 3) := by decide +kernel
theorem dL_law_1165 : decode cL_law 1165 = .ok (.aload_n 3, 1) := by decide +kernel
theorem dL_law_1166 : decode cL_law 1166 = .ok (.bipush 7, 2) := by decide +kernel
theorem dL_law_1168 : decode cL_law 1168 = .ok (.invokestatic 293, 3) := by decide +kernel
theorem dL_law_1171 : decode cL_law 1171 = .ok (.ldc 42, 2) := by decide +kernel
theorem dL_law_1173 : decode cL_law 1173 = .ok (.if_icmp .ne 63, 3) := by decide +kernel
theorem dL_law_1176 : decode cL_law 1176 = .ok (.aload_n 3, 1) := by decide +kernel
theorem dL_law_1177 : decode cL_law 1177 = .ok (.iconst (-1), 1) := by decide +kernel
theorem dL_law_1178 : decode cL_law 1178 = .ok (.iconst 0, 1) := by decide +kernel
theorem dL_law_1179 : decode cL_law 1179 = .ok (.invokestatic 295, 3) := by decide +kernel
theorem dL_law_1182 : decode cL_law 1182 = .ok (.ldc 52, 2) := by decide +kernel
theorem dL_law_1184 : decode cL_law 1184 = .ok (.if_icmp .ne 52, 3) := by decide +kernel
theorem dL_law_1187 : decode cL_law 1187 = .ok (.aload_n 3, 1) := by decide +kernel
theorem dL_law_1188 : decode cL_law 1188 = .ok (.iconst (-1), 1) := by decide +kernel
theorem dL_law_1189 : decode cL_law 1189 = .ok (.invokestatic 297, 3) := by decide +kernel
theorem dL_law_1192 : decode cL_law 1192 = .ok (.ldc 42, 2) := by decide +kernel
theorem dL_law_1194 : decode cL_law 1194 = .ok (.if_icmp .ne 42, 3) := by decide +kernel
theorem dL_law_1197 : decode cL_law 1197 = .ok (.aload_n 3, 1) := by decide +kernel
theorem dL_law_1198 : decode cL_law 1198 = .ok (.iconst 0, 1) := by decide +kernel
theorem dL_law_1199 : decode cL_law 1199 = .ok (.bipush 12, 2) := by decide +kernel
theorem dL_law_1201 : decode cL_law 1201 = .ok (.invokestatic 299, 3) := by decide +kernel
theorem dL_law_1204 : decode cL_law 1204 = .ok (.ldc 52, 2) := by decide +kernel
theorem dL_law_1206 : decode cL_law 1206 = .ok (.if_icmp .ne 30, 3) := by decide +kernel
theorem dL_law_1209 : decode cL_law 1209 = .ok (.aload_n 3, 1) := by decide +kernel
theorem dL_law_1210 : decode cL_law 1210 = .ok (.bipush 41, 2) := by decide +kernel
theorem dL_law_1212 : decode cL_law 1212 = .ok (.iconst 0, 1) := by decide +kernel
theorem dL_law_1213 : decode cL_law 1213 = .ok (.invokestatic 301, 3) := by decide +kernel
theorem dL_law_1216 : decode cL_law 1216 = .ok (.ldc 42, 2) := by decide +kernel
theorem dL_law_1218 : decode cL_law 1218 = .ok (.if_icmp .ne 18, 3) := by decide +kernel
theorem dL_law_1221 : decode cL_law 1221 = .ok (.aload_n 3, 1) := by decide +kernel
theorem dL_law_1222 : decode cL_law 1222 = .ok (.bipush 7, 2) := by decide +kernel
theorem dL_law_1224 : decode cL_law 1224 = .ok (.invokestatic 303, 3) := by decide +kernel
theorem dL_law_1227 : decode cL_law 1227 = .ok (.ldc 42, 2) := by decide +kernel
theorem dL_law_1229 : decode cL_law 1229 = .ok (.if_icmp .ne 7, 3) := by decide +kernel
theorem dL_law_1232 : decode cL_law 1232 = .ok (.iconst 1, 1) := by decide +kernel
theorem dL_law_1233 : decode cL_law 1233 = .ok (.goto 4, 3) := by decide +kernel
theorem dL_law_1236 : decode cL_law 1236 = .ok (.iconst 0, 1) := by decide +kernel
theorem dL_law_1237 : decode cL_law 1237 = .ok (.istore_n 1, 1) := by decide +kernel
theorem dL_law_1238 : decode cL_law 1238 = .ok (.iinc 2 1, 3) := by decide +kernel
theorem dL_law_1241 : decode cL_law 1241 = .ok (.goto (-1237), 3) := by decide +kernel
theorem dL_law_1244 : decode cL_law 1244 = .ok (.iload_n 1, 1) := by decide +kernel
theorem dL_law_1245 : decode cL_law 1245 = .ok (.ireturn, 1) := by decide +kernel
