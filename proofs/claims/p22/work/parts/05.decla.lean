theorem dL_cell_0 : decode cL_cell 0 = .ok (.iload_n 1, 1) := by decide +kernel
theorem dL_cell_1 : decode cL_cell 1 = .ok (.aload_n 0, 1) := by decide +kernel
theorem dL_cell_2 : decode cL_cell 2 = .ok (.arraylength, 1) := by decide +kernel
theorem dL_cell_3 : decode cL_cell 3 = .ok (.if_icmp .ge 9, 3) := by decide +kernel
theorem dL_cell_6 : decode cL_cell 6 = .ok (.aload_n 0, 1) := by decide +kernel
theorem dL_cell_7 : decode cL_cell 7 = .ok (.iload_n 1, 1) := by decide +kernel
theorem dL_cell_8 : decode cL_cell 8 = .ok (.iaload, 1) := by decide +kernel
theorem dL_cell_9 : decode cL_cell 9 = .ok (.goto 10, 3) := by decide +kernel
theorem dL_cell_12 : decode cL_cell 12 = .ok (.ldc 7, 2) := by decide +kernel
theorem dL_cell_14 : decode cL_cell 14 = .ok (.iload_n 1, 1) := by decide +kernel
theorem dL_cell_15 : decode cL_cell 15 = .ok (.bipush 6, 2) := by decide +kernel
theorem dL_cell_17 : decode cL_cell 17 = .ok (.iadd, 1) := by decide +kernel
theorem dL_cell_18 : decode cL_cell 18 = .ok (.imul, 1) := by decide +kernel
theorem dL_cell_19 : decode cL_cell 19 = .ok (.ireturn, 1) := by decide +kernel
theorem dL_low_0 : decode cL_low 0 = .ok (.iload_n 0, 1) := by decide +kernel
theorem dL_low_1 : decode cL_low 1 = .ok (.iconst 1, 1) := by decide +kernel
theorem dL_low_2 : decode cL_low 2 = .ok (.iushr, 1) := by decide +kernel
theorem dL_low_3 : decode cL_low 3 = .ok (.iload_n 1, 1) := by decide +kernel
theorem dL_low_4 : decode cL_low 4 = .ok (.irem, 1) := by decide +kernel
theorem dL_low_5 : decode cL_low 5 = .ok (.ireturn, 1) := by decide +kernel
theorem dL_addPart_0 : decode cL_addPart 0 = .ok (.aload_n 0, 1) := by decide +kernel
theorem dL_addPart_1 : decode cL_addPart 1 = .ok (.iload_n 1, 1) := by decide +kernel
theorem dL_addPart_2 : decode cL_addPart 2 = .ok (.iload_n 2, 1) := by decide +kernel
theorem dL_addPart_3 : decode cL_addPart 3 = .ok (.iload_n 3, 1) := by decide +kernel
theorem dL_addPart_4 : decode cL_addPart 4 = .ok (.invokevirtual 8, 3) := by decide +kernel
theorem dL_addPart_7 : decode cL_addPart 7 = .ok (.istore 4, 2) := by decide +kernel
theorem dL_addPart_9 : decode cL_addPart 9 = .ok (.goto 13, 3) := by decide +kernel
theorem dL_addPart_12 : decode cL_addPart 12 = .ok (.astore 5, 2) := by decide +kernel
theorem dL_addPart_14 : decode cL_addPart 14 = .ok (.bipush (-72), 2) := by decide +kernel
theorem dL_addPart_16 : decode cL_addPart 16 = .ok (.ireturn, 1) := by decide +kernel
theorem dL_addPart_17 : decode cL_addPart 17 = .ok (.astore 5, 2) := by decide +kernel
theorem dL_addPart_19 : decode cL_addPart 19 = .ok (.bipush (-73), 2) := by decide +kernel
theorem dL_addPart_21 : decode cL_addPart 21 = .ok (.ireturn, 1) := by decide +kernel
theorem dL_addPart_22 : decode cL_addPart 22 = .ok (.iload 4, 2) := by decide +kernel
theorem dL_addPart_24 : decode cL_addPart 24 = .ok (.ireturn, 1) := by decide +kernel
theorem dL_setFlags_0 : decode cL_setFlags 0 = .ok (.aload_n 0, 1) := by decide +kernel
theorem dL_setFlags_1 : decode cL_setFlags 1 = .ok (.iload_n 1, 1) := by decide +kernel
theorem dL_setFlags_2 : decode cL_setFlags 2 = .ok (.iload_n 2, 1) := by decide +kernel
theorem dL_setFlags_3 : decode cL_setFlags 3 = .ok (.invokevirtual 18, 3) := by decide +kernel
theorem dL_setFlags_6 : decode cL_setFlags 6 = .ok (.istore_n 3, 1) := by decide +kernel
theorem dL_setFlags_7 : decode cL_setFlags 7 = .ok (.goto 13, 3) := by decide +kernel
theorem dL_setFlags_10 : decode cL_setFlags 10 = .ok (.astore 4, 2) := by decide +kernel
theorem dL_setFlags_12 : decode cL_setFlags 12 = .ok (.bipush (-71), 2) := by decide +kernel
theorem dL_setFlags_14 : decode cL_setFlags 14 = .ok (.ireturn, 1) := by decide +kernel
theorem dL_setFlags_15 : decode cL_setFlags 15 = .ok (.astore 4, 2) := by decide +kernel
theorem dL_setFlags_17 : decode cL_setFlags 17 = .ok (.bipush (-72), 2) := by decide +kernel
theorem dL_setFlags_19 : decode cL_setFlags 19 = .ok (.ireturn, 1) := by decide +kernel
theorem dL_setFlags_20 : decode cL_setFlags 20 = .ok (.iload_n 3, 1) := by decide +kernel
theorem dL_setFlags_21 : decode cL_setFlags 21 = .ok (.ireturn, 1) := by decide +kernel
theorem dL_addLink_0 : decode cL_addLink 0 = .ok (.aload_n 0, 1) := by decide +kernel
theorem dL_addLink_1 : decode cL_addLink 1 = .ok (.iload_n 1, 1) := by decide +kernel
theorem dL_addLink_2 : decode cL_addLink 2 = .ok (.invokevirtual 24, 3) := by decide +kernel
theorem dL_addLink_5 : decode cL_addLink 5 = .ok (.istore_n 2, 1) := by decide +kernel
theorem dL_addLink_6 : decode cL_addLink 6 = .ok (.goto 11, 3) := by decide +kernel
theorem dL_addLink_9 : decode cL_addLink 9 = .ok (.astore_n 3, 1) := by decide +kernel
theorem dL_addLink_10 : decode cL_addLink 10 = .ok (.bipush (-72), 2) := by decide +kernel
theorem dL_addLink_12 : decode cL_addLink 12 = .ok (.ireturn, 1) := by decide +kernel
theorem dL_addLink_13 : decode cL_addLink 13 = .ok (.astore_n 3, 1) := by decide +kernel
theorem dL_addLink_14 : decode cL_addLink 14 = .ok (.bipush (-73), 2) := by decide +kernel
theorem dL_addLink_16 : decode cL_addLink 16 = .ok (.ireturn, 1) := by decide +kernel
theorem dL_addLink_17 : decode cL_addLink 17 = .ok (.iload_n 2, 1) := by decide +kernel
theorem dL_addLink_18 : decode cL_addLink 18 = .ok (.ireturn, 1) := by decide +kernel
theorem dL_veto_0 : decode cL_veto 0 = .ok (.aload_n 0, 1) := by decide +kernel
theorem dL_veto_1 : decode cL_veto 1 = .ok (.iload_n 1, 1) := by decide +kernel
theorem dL_veto_2 : decode cL_veto 2 = .ok (.iload_n 2, 1) := by decide +kernel
theorem dL_veto_3 : decode cL_veto 3 = .ok (.iload_n 3, 1) := by decide +kernel
theorem dL_veto_4 : decode cL_veto 4 = .ok (.invokevirtual 28, 3) := by decide +kernel
theorem dL_veto_7 : decode cL_veto 7 = .ok (.istore 4, 2) := by decide +kernel
theorem dL_veto_9 : decode cL_veto 9 = .ok (.goto 8, 3) := by decide +kernel
theorem dL_veto_12 : decode cL_veto 12 = .ok (.astore 5, 2) := by decide +kernel
theorem dL_veto_14 : decode cL_veto 14 = .ok (.bipush (-71), 2) := by decide +kernel
theorem dL_veto_16 : decode cL_veto 16 = .ok (.ireturn, 1) := by decide +kernel
theorem dL_veto_17 : decode cL_veto 17 = .ok (.iload 4, 2) := by decide +kernel
theorem dL_veto_19 : decode cL_veto 19 = .ok (.ifCond .eq 7, 3) := by decide +kernel
theorem dL_veto_22 : decode cL_veto 22 = .ok (.iconst 1, 1) := by decide +kernel
theorem dL_veto_23 : decode cL_veto 23 = .ok (.goto 4, 3) := by decide +kernel
theorem dL_veto_26 : decode cL_veto 26 = .ok (.iconst 0, 1) := by decide +kernel
theorem dL_veto_27 : decode cL_veto 27 = .ok (.ireturn, 1) := by decide +kernel
theorem dL_bar_0 : decode cL_bar 0 = .ok (.aload_n 0, 1) := by decide +kernel
theorem dL_bar_1 : decode cL_bar 1 = .ok (.iload_n 1, 1) := by decide +kernel
theorem dL_bar_2 : decode cL_bar 2 = .ok (.iload_n 2, 1) := by decide +kernel
theorem dL_bar_3 : decode cL_bar 3 = .ok (.iload_n 3, 1) := by decide +kernel
theorem dL_bar_4 : decode cL_bar 4 = .ok (.invokevirtual 32, 3) := by decide +kernel
theorem dL_bar_7 : decode cL_bar 7 = .ok (.istore 4, 2) := by decide +kernel
theorem dL_bar_9 : decode cL_bar 9 = .ok (.goto 8, 3) := by decide +kernel
theorem dL_bar_12 : decode cL_bar 12 = .ok (.astore 5, 2) := by decide +kernel
theorem dL_bar_14 : decode cL_bar 14 = .ok (.bipush (-71), 2) := by decide +kernel
theorem dL_bar_16 : decode cL_bar 16 = .ok (.ireturn, 1) := by decide +kernel
theorem dL_bar_17 : decode cL_bar 17 = .ok (.iload 4, 2) := by decide +kernel
theorem dL_bar_19 : decode cL_bar 19 = .ok (.ifCond .eq 7, 3) := by decide +kernel
theorem dL_bar_22 : decode cL_bar 22 = .ok (.iconst 1, 1) := by decide +kernel
theorem dL_bar_23 : decode cL_bar 23 = .ok (.goto 4, 3) := by decide +kernel
theorem dL_bar_26 : decode cL_bar 26 = .ok (.iconst 0, 1) := by decide +kernel
theorem dL_bar_27 : decode cL_bar 27 = .ok (.ireturn, 1) := by decide +kernel
theorem dL_count_0 : decode cL_count 0 = .ok (.aload_n 0, 1) := by decide +kernel
theorem dL_count_1 : decode cL_count 1 = .ok (.iload_n 1, 1) := by decide +kernel
theorem dL_count_2 : decode cL_count 2 = .ok (.invokevirtual 35, 3) := by decide +kernel
theorem dL_count_5 : decode cL_count 5 = .ok (.istore_n 2, 1) := by decide +kernel
theorem dL_count_6 : decode cL_count 6 = .ok (.goto 7, 3) := by decide +kernel
theorem dL_count_9 : decode cL_count 9 = .ok (.astore_n 3, 1) := by decide +kernel
theorem dL_count_10 : decode cL_count 10 = .ok (.bipush (-71), 2) := by decide +kernel
theorem dL_count_12 : decode cL_count 12 = .ok (.ireturn, 1) := by decide +kernel
theorem dL_count_13 : decode cL_count 13 = .ok (.iload_n 2, 1) := by decide +kernel
theorem dL_count_14 : decode cL_count 14 = .ok (.ireturn, 1) := by decide +kernel
theorem dL_find_0 : decode cL_find 0 = .ok (.aload_n 0, 1) := by decide +kernel
theorem dL_find_1 : decode cL_find 1 = .ok (.iload_n 1, 1) := by decide +kernel
theorem dL_find_2 : decode cL_find 2 = .ok (.invokevirtual 38, 3) := by decide +kernel
theorem dL_find_5 : decode cL_find 5 = .ok (.istore_n 2, 1) := by decide +kernel
theorem dL_find_6 : decode cL_find 6 = .ok (.goto 7, 3) := by decide +kernel
theorem dL_find_9 : decode cL_find 9 = .ok (.astore_n 3, 1) := by decide +kernel
theorem dL_find_10 : decode cL_find 10 = .ok (.bipush (-72), 2) := by decide +kernel
theorem dL_find_12 : decode cL_find 12 = .ok (.ireturn, 1) := by decide +kernel
theorem dL_find_13 : decode cL_find 13 = .ok (.iload_n 2, 1) := by decide +kernel
theorem dL_find_14 : decode cL_find 14 = .ok (.ireturn, 1) := by decide +kernel
theorem dL_splits_0 : decode cL_splits 0 = .ok (.aload_n 0, 1) := by decide +kernel
theorem dL_splits_1 : decode cL_splits 1 = .ok (.iload_n 1, 1) := by decide +kernel
theorem dL_splits_2 : decode cL_splits 2 = .ok (.invokevirtual 41, 3) := by decide +kernel
theorem dL_splits_5 : decode cL_splits 5 = .ok (.istore_n 2, 1) := by decide +kernel
theorem dL_splits_6 : decode cL_splits 6 = .ok (.goto 7, 3) := by decide +kernel
theorem dL_splits_9 : decode cL_splits 9 = .ok (.astore_n 3, 1) := by decide +kernel
theorem dL_splits_10 : decode cL_splits 10 = .ok (.bipush (-72), 2) := by decide +kernel
theorem dL_splits_12 : decode cL_splits 12 = .ok (.ireturn, 1) := by decide +kernel
theorem dL_splits_13 : decode cL_splits 13 = .ok (.iload_n 2, 1) := by decide +kernel
theorem dL_splits_14 : decode cL_splits 14 = .ok (.ireturn, 1) := by decide +kernel
theorem dL_cost_0 : decode cL_cost 0 = .ok (.aload_n 0, 1) := by decide +kernel
theorem dL_cost_1 : decode cL_cost 1 = .ok (.iload_n 1, 1) := by decide +kernel
theorem dL_cost_2 : decode cL_cost 2 = .ok (.iload_n 2, 1) := by decide +kernel
theorem dL_cost_3 : decode cL_cost 3 = .ok (.invokevirtual 44, 3) := by decide +kernel
theorem dL_cost_6 : decode cL_cost 6 = .ok (.istore_n 3, 1) := by decide +kernel
theorem dL_cost_7 : decode cL_cost 7 = .ok (.goto 8, 3) := by decide +kernel
theorem dL_cost_10 : decode cL_cost 10 = .ok (.astore 4, 2) := by decide +kernel
theorem dL_cost_12 : decode cL_cost 12 = .ok (.bipush (-72), 2) := by decide +kernel
theorem dL_cost_14 : decode cL_cost 14 = .ok (.ireturn, 1) := by decide +kernel
theorem dL_cost_15 : decode cL_cost 15 = .ok (.iload_n 3, 1) := by decide +kernel
theorem dL_cost_16 : decode cL_cost 16 = .ok (.ireturn, 1) := by decide +kernel
theorem dL_partAt_0 : decode cL_partAt 0 = .ok (.aload_n 0, 1) := by decide +kernel
theorem dL_partAt_1 : decode cL_partAt 1 = .ok (.iload_n 1, 1) := by decide +kernel
theorem dL_partAt_2 : decode cL_partAt 2 = .ok (.iload_n 2, 1) := by decide +kernel
theorem dL_partAt_3 : decode cL_partAt 3 = .ok (.iload_n 3, 1) := by decide +kernel
theorem dL_partAt_4 : decode cL_partAt 4 = .ok (.invokevirtual 47, 3) := by decide +kernel
theorem dL_partAt_7 : decode cL_partAt 7 = .ok (.istore 4, 2) := by decide +kernel
theorem dL_partAt_9 : decode cL_partAt 9 = .ok (.goto 8, 3) := by decide +kernel
theorem dL_partAt_12 : decode cL_partAt 12 = .ok (.astore 5, 2) := by decide +kernel
theorem dL_partAt_14 : decode cL_partAt 14 = .ok (.bipush (-72), 2) := by decide +kernel
theorem dL_partAt_16 : decode cL_partAt 16 = .ok (.ireturn, 1) := by decide +kernel
theorem dL_partAt_17 : decode cL_partAt 17 = .ok (.iload 4, 2) := by decide +kernel
theorem dL_partAt_19 : decode cL_partAt 19 = .ok (.ireturn, 1) := by decide +kernel
theorem dL_learn_0 : decode cL_learn 0 = .ok (.aload_n 0, 1) := by decide +kernel
theorem dL_learn_1 : decode cL_learn 1 = .ok (.iload_n 1, 1) := by decide +kernel
theorem dL_learn_2 : decode cL_learn 2 = .ok (.invokevirtual 50, 3) := by decide +kernel
theorem dL_learn_5 : decode cL_learn 5 = .ok (.istore_n 2, 1) := by decide +kernel
theorem dL_learn_6 : decode cL_learn 6 = .ok (.goto 11, 3) := by decide +kernel
theorem dL_learn_9 : decode cL_learn 9 = .ok (.astore_n 3, 1) := by decide +kernel
theorem dL_learn_10 : decode cL_learn 10 = .ok (.bipush (-72), 2) := by decide +kernel
theorem dL_learn_12 : decode cL_learn 12 = .ok (.ireturn, 1) := by decide +kernel
theorem dL_learn_13 : decode cL_learn 13 = .ok (.astore_n 3, 1) := by decide +kernel
theorem dL_learn_14 : decode cL_learn 14 = .ok (.bipush (-73), 2) := by decide +kernel
theorem dL_learn_16 : decode cL_learn 16 = .ok (.ireturn, 1) := by decide +kernel
theorem dL_learn_17 : decode cL_learn 17 = .ok (.iload_n 2, 1) := by decide +kernel
theorem dL_learn_18 : decode cL_learn 18 = .ok (.ifCond .eq 7, 3) := by decide +kernel
theorem dL_learn_21 : decode cL_learn 21 = .ok (.iconst 1, 1) := by decide +kernel
theorem dL_learn_22 : decode cL_learn 22 = .ok (.goto 4, 3) := by decide +kernel
theorem dL_learn_25 : decode cL_learn 25 = .ok (.iconst 0, 1) := by decide +kernel
theorem dL_learn_26 : decode cL_learn 26 = .ok (.ireturn, 1) := by decide +kernel
theorem dL_forget_0 : decode cL_forget 0 = .ok (.aload_n 0, 1) := by decide +kernel
theorem dL_forget_1 : decode cL_forget 1 = .ok (.invokevirtual 54, 3) := by decide +kernel
theorem dL_forget_4 : decode cL_forget 4 = .ok (.istore_n 1, 1) := by decide +kernel
theorem dL_forget_5 : decode cL_forget 5 = .ok (.goto 7, 3) := by decide +kernel
theorem dL_forget_8 : decode cL_forget 8 = .ok (.astore_n 2, 1) := by decide +kernel
theorem dL_forget_9 : decode cL_forget 9 = .ok (.bipush (-73), 2) := by decide +kernel
theorem dL_forget_11 : decode cL_forget 11 = .ok (.ireturn, 1) := by decide +kernel
theorem dL_forget_12 : decode cL_forget 12 = .ok (.iload_n 1, 1) := by decide +kernel
theorem dL_forget_13 : decode cL_forget 13 = .ok (.ireturn, 1) := by decide +kernel
theorem dL_size_0 : decode cL_size 0 = .ok (.iconst 0, 1) := by decide +kernel
theorem dL_size_1 : decode cL_size 1 = .ok (.istore_n 1, 1) := by decide +kernel
theorem dL_size_2 : decode cL_size 2 = .ok (.iload_n 0, 1) := by decide +kernel
theorem dL_size_3 : decode cL_size 3 = .ok (.istore_n 2, 1) := by decide +kernel
theorem dL_size_4 : decode cL_size 4 = .ok (.iload_n 2, 1) := by decide +kernel
theorem dL_size_5 : decode cL_size 5 = .ok (.bipush 9, 2) := by decide +kernel
theorem dL_size_7 : decode cL_size 7 = .ok (.if_icmp .le 14, 3) := by decide +kernel
theorem dL_size_10 : decode cL_size 10 = .ok (.iinc 1 1, 3) := by decide +kernel
theorem dL_size_13 : decode cL_size 13 = .ok (.iload_n 2, 1) := by decide +kernel
theorem dL_size_14 : decode cL_size 14 = .ok (.bipush 10, 2) := by decide +kernel
theorem dL_size_16 : decode cL_size 16 = .ok (.idiv, 1) := by decide +kernel
theorem dL_size_17 : decode cL_size 17 = .ok (.istore_n 2, 1) := by decide +kernel
theorem dL_size_18 : decode cL_size 18 = .ok (.goto (-14), 3) := by decide +kernel
theorem dL_size_21 : decode cL_size 21 = .ok (.iload_n 1, 1) := by decide +kernel
theorem dL_size_22 : decode cL_size 22 = .ok (.ireturn, 1) := by decide +kernel
theorem dL_power_0 : decode cL_power 0 = .ok (.iload_n 0, 1) := by decide +kernel
theorem dL_power_1 : decode cL_power 1 = .ok (.ifCond .ne 7, 3) := by decide +kernel
theorem dL_power_4 : decode cL_power 4 = .ok (.iconst 1, 1) := by decide +kernel
theorem dL_power_5 : decode cL_power 5 = .ok (.goto 47, 3) := by decide +kernel
theorem dL_power_8 : decode cL_power 8 = .ok (.iload_n 0, 1) := by decide +kernel
theorem dL_power_9 : decode cL_power 9 = .ok (.iconst 1, 1) := by decide +kernel
theorem dL_power_10 : decode cL_power 10 = .ok (.if_icmp .ne 8, 3) := by decide +kernel
theorem dL_power_13 : decode cL_power 13 = .ok (.bipush 10, 2) := by decide +kernel
theorem dL_power_15 : decode cL_power 15 = .ok (.goto 37, 3) := by decide +kernel
theorem dL_power_18 : decode cL_power 18 = .ok (.iload_n 0, 1) := by decide +kernel
theorem dL_power_19 : decode cL_power 19 = .ok (.iconst 2, 1) := by decide +kernel
theorem dL_power_20 : decode cL_power 20 = .ok (.if_icmp .ne 8, 3) := by decide +kernel
theorem dL_power_23 : decode cL_power 23 = .ok (.bipush 100, 2) := by decide +kernel
theorem dL_power_25 : decode cL_power 25 = .ok (.goto 27, 3) := by decide +kernel
theorem dL_power_28 : decode cL_power 28 = .ok (.iload_n 0, 1) := by decide +kernel
theorem dL_power_29 : decode cL_power 29 = .ok (.iconst 3, 1) := by decide +kernel
theorem dL_power_30 : decode cL_power 30 = .ok (.if_icmp .ne 9, 3) := by decide +kernel
theorem dL_power_33 : decode cL_power 33 = .ok (.sipush 1000, 3) := by decide +kernel
theorem dL_power_36 : decode cL_power 36 = .ok (.goto 16, 3) := by decide +kernel
theorem dL_power_39 : decode cL_power 39 = .ok (.iload_n 0, 1) := by decide +kernel
theorem dL_power_40 : decode cL_power 40 = .ok (.iconst 4, 1) := by decide +kernel
theorem dL_power_41 : decode cL_power 41 = .ok (.if_icmp .ne 9, 3) := by decide +kernel
theorem dL_power_44 : decode cL_power 44 = .ok (.sipush 10000, 3) := by decide +kernel
theorem dL_power_47 : decode cL_power 47 = .ok (.goto 5, 3) := by decide +kernel
theorem dL_power_50 : decode cL_power 50 = .ok (.ldc 58, 2) := by decide +kernel
theorem dL_power_52 : decode cL_power 52 = .ok (.ireturn, 1) := by decide +kernel
theorem dL_sub_0 : decode cL_sub 0 = .ok (.iload_n 0, 1) := by decide +kernel
theorem dL_sub_1 : decode cL_sub 1 = .ok (.invokestatic 59, 3) := by decide +kernel
theorem dL_sub_4 : decode cL_sub 4 = .ok (.istore_n 3, 1) := by decide +kernel
theorem dL_sub_5 : decode cL_sub 5 = .ok (.iload_n 1, 1) := by decide +kernel
theorem dL_sub_6 : decode cL_sub 6 = .ok (.iload_n 2, 1) := by decide +kernel
theorem dL_sub_7 : decode cL_sub 7 = .ok (.iadd, 1) := by decide +kernel
theorem dL_sub_8 : decode cL_sub 8 = .ok (.iload_n 3, 1) := by decide +kernel
theorem dL_sub_9 : decode cL_sub 9 = .ok (.if_icmp .le 7, 3) := by decide +kernel
theorem dL_sub_12 : decode cL_sub 12 = .ok (.iconst (-1), 1) := by decide +kernel
theorem dL_sub_13 : decode cL_sub 13 = .ok (.goto 23, 3) := by decide +kernel
theorem dL_sub_16 : decode cL_sub 16 = .ok (.iload_n 0, 1) := by decide +kernel
theorem dL_sub_17 : decode cL_sub 17 = .ok (.iload_n 3, 1) := by decide +kernel
theorem dL_sub_18 : decode cL_sub 18 = .ok (.iload_n 1, 1) := by decide +kernel
theorem dL_sub_19 : decode cL_sub 19 = .ok (.isub, 1) := by decide +kernel
theorem dL_sub_20 : decode cL_sub 20 = .ok (.iload_n 2, 1) := by decide +kernel
theorem dL_sub_21 : decode cL_sub 21 = .ok (.isub, 1) := by decide +kernel
theorem dL_sub_22 : decode cL_sub 22 = .ok (.invokestatic 64, 3) := by decide +kernel
theorem dL_sub_25 : decode cL_sub 25 = .ok (.idiv, 1) := by decide +kernel
theorem dL_sub_26 : decode cL_sub 26 = .ok (.iload_n 2, 1) := by decide +kernel
theorem dL_sub_27 : decode cL_sub 27 = .ok (.invokestatic 64, 3) := by decide +kernel
theorem dL_sub_30 : decode cL_sub 30 = .ok (.irem, 1) := by decide +kernel
theorem dL_sub_31 : decode cL_sub 31 = .ok (.iload_n 2, 1) := by decide +kernel
theorem dL_sub_32 : decode cL_sub 32 = .ok (.invokestatic 64, 3) := by decide +kernel
theorem dL_sub_35 : decode cL_sub 35 = .ok (.iadd, 1) := by decide +kernel
theorem dL_sub_36 : decode cL_sub 36 = .ok (.ireturn, 1) := by decide +kernel
theorem dL_parts_0 : decode cL_parts 0 = .ok (.iconst 0, 1) := by decide +kernel
theorem dL_parts_1 : decode cL_parts 1 = .ok (.istore_n 2, 1) := by decide +kernel
theorem dL_parts_2 : decode cL_parts 2 = .ok (.lload_n 0, 1) := by decide +kernel
theorem dL_parts_3 : decode cL_parts 3 = .ok (.lstore_n 3, 1) := by decide +kernel
theorem dL_parts_4 : decode cL_parts 4 = .ok (.lload_n 3, 1) := by decide +kernel
theorem dL_parts_5 : decode cL_parts 5 = .ok (.lconst 0, 1) := by decide +kernel
theorem dL_parts_6 : decode cL_parts 6 = .ok (.lcmp, 1) := by decide +kernel
theorem dL_parts_7 : decode cL_parts 7 = .ok (.ifCond .le 14, 3) := by decide +kernel
theorem dL_parts_10 : decode cL_parts 10 = .ok (.iinc 2 1, 3) := by decide +kernel
theorem dL_parts_13 : decode cL_parts 13 = .ok (.lload_n 3, 1) := by decide +kernel
theorem dL_parts_14 : decode cL_parts 14 = .ok (.bipush 8, 2) := by decide +kernel
theorem dL_parts_16 : decode cL_parts 16 = .ok (.lshr, 1) := by decide +kernel
theorem dL_parts_17 : decode cL_parts 17 = .ok (.lstore_n 3, 1) := by decide +kernel
theorem dL_parts_18 : decode cL_parts 18 = .ok (.goto (-14), 3) := by decide +kernel
theorem dL_parts_21 : decode cL_parts 21 = .ok (.iload_n 2, 1) := by decide +kernel
theorem dL_parts_22 : decode cL_parts 22 = .ok (.ireturn, 1) := by decide +kernel
theorem dL_at_0 : decode cL_at 0 = .ok (.lload_n 0, 1) := by decide +kernel
theorem dL_at_1 : decode cL_at 1 = .ok (.invokestatic 67, 3) := by decide +kernel
theorem dL_at_4 : decode cL_at 4 = .ok (.istore_n 3, 1) := by decide +kernel
theorem dL_at_5 : decode cL_at 5 = .ok (.iload_n 2, 1) := by decide +kernel
theorem dL_at_6 : decode cL_at 6 = .ok (.iload_n 3, 1) := by decide +kernel
theorem dL_at_7 : decode cL_at 7 = .ok (.if_icmp .lt 7, 3) := by decide +kernel
theorem dL_at_10 : decode cL_at 10 = .ok (.iconst (-1), 1) := by decide +kernel
theorem dL_at_11 : decode cL_at 11 = .ok (.goto 18, 3) := by decide +kernel
theorem dL_at_14 : decode cL_at 14 = .ok (.lload_n 0, 1) := by decide +kernel
theorem dL_at_15 : decode cL_at 15 = .ok (.bipush 8, 2) := by decide +kernel
theorem dL_at_17 : decode cL_at 17 = .ok (.iload_n 3, 1) := by decide +kernel
theorem dL_at_18 : decode cL_at 18 = .ok (.iconst 1, 1) := by decide +kernel
theorem dL_at_19 : decode cL_at 19 = .ok (.isub, 1) := by decide +kernel
theorem dL_at_20 : decode cL_at 20 = .ok (.iload_n 2, 1) := by decide +kernel
theorem dL_at_21 : decode cL_at 21 = .ok (.isub, 1) := by decide +kernel
theorem dL_at_22 : decode cL_at 22 = .ok (.imul, 1) := by decide +kernel
theorem dL_at_23 : decode cL_at 23 = .ok (.lshr, 1) := by decide +kernel
theorem dL_at_24 : decode cL_at 24 = .ok (.ldc2_w 71, 3) := by decide +kernel
theorem dL_at_27 : decode cL_at 27 = .ok (.land, 1) := by decide +kernel
theorem dL_at_28 : decode cL_at 28 = .ok (.l2i, 1) := by decide +kernel
theorem dL_at_29 : decode cL_at 29 = .ok (.ireturn, 1) := by decide +kernel
theorem dL_length_0 : decode cL_length 0 = .ok (.iconst 0, 1) := by decide +kernel
theorem dL_length_1 : decode cL_length 1 = .ok (.istore 4, 2) := by decide +kernel
theorem dL_length_3 : decode cL_length 3 = .ok (.lload_n 0, 1) := by decide +kernel
theorem dL_length_4 : decode cL_length 4 = .ok (.lstore 5, 2) := by decide +kernel
theorem dL_length_6 : decode cL_length 6 = .ok (.lload 5, 2) := by decide +kernel
theorem dL_length_8 : decode cL_length 8 = .ok (.lconst 0, 1) := by decide +kernel
theorem dL_length_9 : decode cL_length 9 = .ok (.lcmp, 1) := by decide +kernel
theorem dL_length_10 : decode cL_length 10 = .ok (.ifCond .le 64, 3) := by decide +kernel
theorem dL_length_13 : decode cL_length 13 = .ok (.iload 4, 2) := by decide +kernel
theorem dL_length_15 : decode cL_length 15 = .ok (.aload_n 2, 1) := by decide +kernel
theorem dL_length_16 : decode cL_length 16 = .ok (.lload 5, 2) := by decide +kernel
theorem dL_length_18 : decode cL_length 18 = .ok (.iconst 3, 1) := by decide +kernel
theorem dL_length_19 : decode cL_length 19 = .ok (.lshr, 1) := by decide +kernel
theorem dL_length_20 : decode cL_length 20 = .ok (.ldc2_w 73, 3) := by decide +kernel
theorem dL_length_23 : decode cL_length 23 = .ok (.land, 1) := by decide +kernel
theorem dL_length_24 : decode cL_length 24 = .ok (.l2i, 1) := by decide +kernel
theorem dL_length_25 : decode cL_length 25 = .ok (.iconst 1, 1) := by decide +kernel
theorem dL_length_26 : decode cL_length 26 = .ok (.isub, 1) := by decide +kernel
theorem dL_length_27 : decode cL_length 27 = .ok (.iaload, 1) := by decide +kernel
theorem dL_length_28 : decode cL_length 28 = .ok (.invokestatic 59, 3) := by decide +kernel
theorem dL_length_31 : decode cL_length 31 = .ok (.lload 5, 2) := by decide +kernel
theorem dL_length_33 : decode cL_length 33 = .ok (.ldc2_w 75, 3) := by decide +kernel
theorem dL_length_36 : decode cL_length 36 = .ok (.land, 1) := by decide +kernel
theorem dL_length_37 : decode cL_length 37 = .ok (.lconst 0, 1) := by decide +kernel
theorem dL_length_38 : decode cL_length 38 = .ok (.lcmp, 1) := by decide +kernel
theorem dL_length_39 : decode cL_length 39 = .ok (.ifCond .le 20, 3) := by decide +kernel
theorem dL_length_42 : decode cL_length 42 = .ok (.aload_n 3, 1) := by decide +kernel
theorem dL_length_43 : decode cL_length 43 = .ok (.lload 5, 2) := by decide +kernel
theorem dL_length_45 : decode cL_length 45 = .ok (.ldc2_w 75, 3) := by decide +kernel
theorem dL_length_48 : decode cL_length 48 = .ok (.land, 1) := by decide +kernel
theorem dL_length_49 : decode cL_length 49 = .ok (.l2i, 1) := by decide +kernel
theorem dL_length_50 : decode cL_length 50 = .ok (.iconst 1, 1) := by decide +kernel
theorem dL_length_51 : decode cL_length 51 = .ok (.isub, 1) := by decide +kernel
theorem dL_length_52 : decode cL_length 52 = .ok (.iaload, 1) := by decide +kernel
theorem dL_length_53 : decode cL_length 53 = .ok (.invokestatic 59, 3) := by decide +kernel
theorem dL_length_56 : decode cL_length 56 = .ok (.goto 4, 3) := by decide +kernel
theorem dL_length_59 : decode cL_length 59 = .ok (.iconst 0, 1) := by decide +kernel
theorem dL_length_60 : decode cL_length 60 = .ok (.iadd, 1) := by decide +kernel
theorem dL_length_61 : decode cL_length 61 = .ok (.iadd, 1) := by decide +kernel
theorem dL_length_62 : decode cL_length 62 = .ok (.istore 4, 2) := by decide +kernel
theorem dL_length_64 : decode cL_length 64 = .ok (.lload 5, 2) := by decide +kernel
theorem dL_length_66 : decode cL_length 66 = .ok (.bipush 8, 2) := by decide +kernel
theorem dL_length_68 : decode cL_length 68 = .ok (.lshr, 1) := by decide +kernel
theorem dL_length_69 : decode cL_length 69 = .ok (.lstore 5, 2) := by decide +kernel
theorem dL_length_71 : decode cL_length 71 = .ok (.goto (-65), 3) := by decide +kernel
theorem dL_length_74 : decode cL_length 74 = .ok (.iload 4, 2) := by decide +kernel
theorem dL_length_76 : decode cL_length 76 = .ok (.ireturn, 1) := by decide +kernel
theorem dL_costOfPart_0 : decode cL_costOfPart 0 = .ok (.iconst 0, 1) := by decide +kernel
theorem dL_costOfPart_1 : decode cL_costOfPart 1 = .ok (.istore_n 1, 1) := by decide +kernel
theorem dL_costOfPart_2 : decode cL_costOfPart 2 = .ok (.iload_n 0, 1) := by decide +kernel
theorem dL_costOfPart_3 : decode cL_costOfPart 3 = .ok (.istore_n 2, 1) := by decide +kernel
theorem dL_costOfPart_4 : decode cL_costOfPart 4 = .ok (.iload_n 2, 1) := by decide +kernel
theorem dL_costOfPart_5 : decode cL_costOfPart 5 = .ok (.sipush 10000, 3) := by decide +kernel
theorem dL_costOfPart_8 : decode cL_costOfPart 8 = .ok (.if_icmp .gt 13, 3) := by decide +kernel
theorem dL_costOfPart_11 : decode cL_costOfPart 11 = .ok (.iinc 1 10, 3) := by decide +kernel
theorem dL_costOfPart_14 : decode cL_costOfPart 14 = .ok (.iload_n 2, 1) := by decide +kernel
theorem dL_costOfPart_15 : decode cL_costOfPart 15 = .ok (.iload_n 2, 1) := by decide +kernel
theorem dL_costOfPart_16 : decode cL_costOfPart 16 = .ok (.iadd, 1) := by decide +kernel
theorem dL_costOfPart_17 : decode cL_costOfPart 17 = .ok (.istore_n 2, 1) := by decide +kernel
theorem dL_costOfPart_18 : decode cL_costOfPart 18 = .ok (.goto (-14), 3) := by decide +kernel
theorem dL_costOfPart_21 : decode cL_costOfPart 21 = .ok (.iload_n 1, 1) := by decide +kernel
theorem dL_costOfPart_22 : decode cL_costOfPart 22 = .ok (.ireturn, 1) := by decide +kernel
theorem dL_costOf_0 : decode cL_costOf 0 = .ok (.bipush (-15), 2) := by decide +kernel
theorem dL_costOf_2 : decode cL_costOf 2 = .ok (.istore_n 3, 1) := by decide +kernel
theorem dL_costOf_3 : decode cL_costOf 3 = .ok (.lload_n 0, 1) := by decide +kernel
theorem dL_costOf_4 : decode cL_costOf 4 = .ok (.lstore 4, 2) := by decide +kernel
theorem dL_costOf_6 : decode cL_costOf 6 = .ok (.lload 4, 2) := by decide +kernel
theorem dL_costOf_8 : decode cL_costOf 8 = .ok (.lconst 0, 1) := by decide +kernel
theorem dL_costOf_9 : decode cL_costOf 9 = .ok (.lcmp, 1) := by decide +kernel
theorem dL_costOf_10 : decode cL_costOf 10 = .ok (.ifCond .le 52, 3) := by decide +kernel
theorem dL_costOf_13 : decode cL_costOf 13 = .ok (.iload_n 3, 1) := by decide +kernel
theorem dL_costOf_14 : decode cL_costOf 14 = .ok (.aload_n 2, 1) := by decide +kernel
theorem dL_costOf_15 : decode cL_costOf 15 = .ok (.lload 4, 2) := by decide +kernel
theorem dL_costOf_17 : decode cL_costOf 17 = .ok (.iconst 3, 1) := by decide +kernel
theorem dL_costOf_18 : decode cL_costOf 18 = .ok (.lshr, 1) := by decide +kernel
theorem dL_costOf_19 : decode cL_costOf 19 = .ok (.ldc2_w 73, 3) := by decide +kernel
theorem dL_costOf_22 : decode cL_costOf 22 = .ok (.land, 1) := by decide +kernel
theorem dL_costOf_23 : decode cL_costOf 23 = .ok (.l2i, 1) := by decide +kernel
theorem dL_costOf_24 : decode cL_costOf 24 = .ok (.iconst 1, 1) := by decide +kernel
theorem dL_costOf_25 : decode cL_costOf 25 = .ok (.isub, 1) := by decide +kernel
theorem dL_costOf_26 : decode cL_costOf 26 = .ok (.iaload, 1) := by decide +kernel
theorem dL_costOf_27 : decode cL_costOf 27 = .ok (.invokestatic 77, 3) := by decide +kernel
theorem dL_costOf_30 : decode cL_costOf 30 = .ok (.bipush 15, 2) := by decide +kernel
theorem dL_costOf_32 : decode cL_costOf 32 = .ok (.iadd, 1) := by decide +kernel
theorem dL_costOf_33 : decode cL_costOf 33 = .ok (.lload 4, 2) := by decide +kernel
theorem dL_costOf_35 : decode cL_costOf 35 = .ok (.ldc2_w 75, 3) := by decide +kernel
theorem dL_costOf_38 : decode cL_costOf 38 = .ok (.land, 1) := by decide +kernel
theorem dL_costOf_39 : decode cL_costOf 39 = .ok (.lconst 0, 1) := by decide +kernel
theorem dL_costOf_40 : decode cL_costOf 40 = .ok (.lcmp, 1) := by decide +kernel
theorem dL_costOf_41 : decode cL_costOf 41 = .ok (.ifCond .le 7, 3) := by decide +kernel
theorem dL_costOf_44 : decode cL_costOf 44 = .ok (.iconst 3, 1) := by decide +kernel
theorem dL_costOf_45 : decode cL_costOf 45 = .ok (.goto 4, 3) := by decide +kernel
theorem dL_costOf_48 : decode cL_costOf 48 = .ok (.iconst 0, 1) := by decide +kernel
theorem dL_costOf_49 : decode cL_costOf 49 = .ok (.iadd, 1) := by decide +kernel
theorem dL_costOf_50 : decode cL_costOf 50 = .ok (.iadd, 1) := by decide +kernel
theorem dL_costOf_51 : decode cL_costOf 51 = .ok (.istore_n 3, 1) := by decide +kernel
theorem dL_costOf_52 : decode cL_costOf 52 = .ok (.lload 4, 2) := by decide +kernel
theorem dL_costOf_54 : decode cL_costOf 54 = .ok (.bipush 8, 2) := by decide +kernel
theorem dL_costOf_56 : decode cL_costOf 56 = .ok (.lshr, 1) := by decide +kernel
theorem dL_costOf_57 : decode cL_costOf 57 = .ok (.lstore 4, 2) := by decide +kernel
theorem dL_costOf_59 : decode cL_costOf 59 = .ok (.goto (-53), 3) := by decide +kernel
theorem dL_costOf_62 : decode cL_costOf 62 = .ok (.iload_n 3, 1) := by decide +kernel
theorem dL_costOf_63 : decode cL_costOf 63 = .ok (.ireturn, 1) := by decide +kernel
theorem dL_isAhead_0 : decode cL_isAhead 0 = .ok (.lload_n 0, 1) := by decide +kernel
theorem dL_isAhead_1 : decode cL_isAhead 1 = .ok (.aload 5, 2) := by decide +kernel
theorem dL_isAhead_3 : decode cL_isAhead 3 = .ok (.invokestatic 80, 3) := by decide +kernel
theorem dL_isAhead_6 : decode cL_isAhead 6 = .ok (.istore 6, 2) := by decide +kernel
theorem dL_isAhead_8 : decode cL_isAhead 8 = .ok (.lload_n 2, 1) := by decide +kernel
theorem dL_isAhead_9 : decode cL_isAhead 9 = .ok (.aload 5, 2) := by decide +kernel
theorem dL_isAhead_11 : decode cL_isAhead 11 = .ok (.invokestatic 80, 3) := by decide +kernel
theorem dL_isAhead_14 : decode cL_isAhead 14 = .ok (.istore 7, 2) := by decide +kernel
theorem dL_isAhead_16 : decode cL_isAhead 16 = .ok (.iload 6, 2) := by decide +kernel
theorem dL_isAhead_18 : decode cL_isAhead 18 = .ok (.iload 7, 2) := by decide +kernel
theorem dL_isAhead_20 : decode cL_isAhead 20 = .ok (.if_icmp .eq 16, 3) := by decide +kernel
theorem dL_isAhead_23 : decode cL_isAhead 23 = .ok (.iload 6, 2) := by decide +kernel
theorem dL_isAhead_25 : decode cL_isAhead 25 = .ok (.iload 7, 2) := by decide +kernel
theorem dL_isAhead_27 : decode cL_isAhead 27 = .ok (.if_icmp .ge 7, 3) := by decide +kernel
theorem dL_isAhead_30 : decode cL_isAhead 30 = .ok (.iconst 1, 1) := by decide +kernel
theorem dL_isAhead_31 : decode cL_isAhead 31 = .ok (.goto 4, 3) := by decide +kernel
theorem dL_isAhead_34 : decode cL_isAhead 34 = .ok (.iconst 0, 1) := by decide +kernel
theorem dL_isAhead_35 : decode cL_isAhead 35 = .ok (.ireturn, 1) := by decide +kernel
theorem dL_isAhead_36 : decode cL_isAhead 36 = .ok (.lload_n 0, 1) := by decide +kernel
theorem dL_isAhead_37 : decode cL_isAhead 37 = .ok (.invokestatic 67, 3) := by decide +kernel
theorem dL_isAhead_40 : decode cL_isAhead 40 = .ok (.lload_n 2, 1) := by decide +kernel
theorem dL_isAhead_41 : decode cL_isAhead 41 = .ok (.invokestatic 67, 3) := by decide +kernel
theorem dL_isAhead_44 : decode cL_isAhead 44 = .ok (.if_icmp .eq 20, 3) := by decide +kernel
theorem dL_isAhead_47 : decode cL_isAhead 47 = .ok (.lload_n 0, 1) := by decide +kernel
theorem dL_isAhead_48 : decode cL_isAhead 48 = .ok (.invokestatic 67, 3) := by decide +kernel
theorem dL_isAhead_51 : decode cL_isAhead 51 = .ok (.lload_n 2, 1) := by decide +kernel
theorem dL_isAhead_52 : decode cL_isAhead 52 = .ok (.invokestatic 67, 3) := by decide +kernel
theorem dL_isAhead_55 : decode cL_isAhead 55 = .ok (.if_icmp .ge 7, 3) := by decide +kernel
theorem dL_isAhead_58 : decode cL_isAhead 58 = .ok (.iconst 1, 1) := by decide +kernel
theorem dL_isAhead_59 : decode cL_isAhead 59 = .ok (.goto 4, 3) := by decide +kernel
theorem dL_isAhead_62 : decode cL_isAhead 62 = .ok (.iconst 0, 1) := by decide +kernel
theorem dL_isAhead_63 : decode cL_isAhead 63 = .ok (.ireturn, 1) := by decide +kernel
theorem dL_isAhead_64 : decode cL_isAhead 64 = .ok (.iconst 0, 1) := by decide +kernel
theorem dL_isAhead_65 : decode cL_isAhead 65 = .ok (.istore 8, 2) := by decide +kernel
theorem dL_isAhead_67 : decode cL_isAhead 67 = .ok (.iload 8, 2) := by decide +kernel
theorem dL_isAhead_69 : decode cL_isAhead 69 = .ok (.lload_n 0, 1) := by decide +kernel
theorem dL_isAhead_70 : decode cL_isAhead 70 = .ok (.invokestatic 67, 3) := by decide +kernel
theorem dL_isAhead_73 : decode cL_isAhead 73 = .ok (.if_icmp .ge 95, 3) := by decide +kernel
theorem dL_isAhead_76 : decode cL_isAhead 76 = .ok (.lload_n 0, 1) := by decide +kernel
theorem dL_isAhead_77 : decode cL_isAhead 77 = .ok (.iload 8, 2) := by decide +kernel
theorem dL_isAhead_79 : decode cL_isAhead 79 = .ok (.invokestatic 84, 3) := by decide +kernel
theorem dL_isAhead_82 : decode cL_isAhead 82 = .ok (.istore 9, 2) := by decide +kernel
theorem dL_isAhead_84 : decode cL_isAhead 84 = .ok (.lload_n 2, 1) := by decide +kernel
theorem dL_isAhead_85 : decode cL_isAhead 85 = .ok (.iload 8, 2) := by decide +kernel
theorem dL_isAhead_87 : decode cL_isAhead 87 = .ok (.invokestatic 84, 3) := by decide +kernel
theorem dL_isAhead_90 : decode cL_isAhead 90 = .ok (.istore 10, 2) := by decide +kernel
theorem dL_isAhead_92 : decode cL_isAhead 92 = .ok (.iload 9, 2) := by decide +kernel
theorem dL_isAhead_94 : decode cL_isAhead 94 = .ok (.iconst 3, 1) := by decide +kernel
theorem dL_isAhead_95 : decode cL_isAhead 95 = .ok (.ishr, 1) := by decide +kernel
theorem dL_isAhead_96 : decode cL_isAhead 96 = .ok (.iload 10, 2) := by decide +kernel
theorem dL_isAhead_98 : decode cL_isAhead 98 = .ok (.iconst 3, 1) := by decide +kernel
theorem dL_isAhead_99 : decode cL_isAhead 99 = .ok (.ishr, 1) := by decide +kernel
theorem dL_isAhead_100 : decode cL_isAhead 100 = .ok (.if_icmp .eq 36, 3) := by decide +kernel
theorem dL_isAhead_103 : decode cL_isAhead 103 = .ok (.aload 4, 2) := by decide +kernel
theorem dL_isAhead_105 : decode cL_isAhead 105 = .ok (.iload 9, 2) := by decide +kernel
theorem dL_isAhead_107 : decode cL_isAhead 107 = .ok (.iconst 3, 1) := by decide +kernel
theorem dL_isAhead_108 : decode cL_isAhead 108 = .ok (.ishr, 1) := by decide +kernel
theorem dL_isAhead_109 : decode cL_isAhead 109 = .ok (.iconst 1, 1) := by decide +kernel
theorem dL_isAhead_110 : decode cL_isAhead 110 = .ok (.isub, 1) := by decide +kernel
theorem dL_isAhead_111 : decode cL_isAhead 111 = .ok (.iaload, 1) := by decide +kernel
theorem dL_isAhead_112 : decode cL_isAhead 112 = .ok (.invokestatic 59, 3) := by decide +kernel
theorem dL_isAhead_115 : decode cL_isAhead 115 = .ok (.aload 4, 2) := by decide +kernel
theorem dL_isAhead_117 : decode cL_isAhead 117 = .ok (.iload 10, 2) := by decide +kernel
theorem dL_isAhead_119 : decode cL_isAhead 119 = .ok (.iconst 3, 1) := by decide +kernel
theorem dL_isAhead_120 : decode cL_isAhead 120 = .ok (.ishr, 1) := by decide +kernel
theorem dL_isAhead_121 : decode cL_isAhead 121 = .ok (.iconst 1, 1) := by decide +kernel
theorem dL_isAhead_122 : decode cL_isAhead 122 = .ok (.isub, 1) := by decide +kernel
theorem dL_isAhead_123 : decode cL_isAhead 123 = .ok (.iaload, 1) := by decide +kernel
theorem dL_isAhead_124 : decode cL_isAhead 124 = .ok (.invokestatic 59, 3) := by decide +kernel
theorem dL_isAhead_127 : decode cL_isAhead 127 = .ok (.if_icmp .le 7, 3) := by decide +kernel
theorem dL_isAhead_130 : decode cL_isAhead 130 = .ok (.iconst 1, 1) := by decide +kernel
theorem dL_isAhead_131 : decode cL_isAhead 131 = .ok (.goto 4, 3) := by decide +kernel
theorem dL_isAhead_134 : decode cL_isAhead 134 = .ok (.iconst 0, 1) := by decide +kernel
theorem dL_isAhead_135 : decode cL_isAhead 135 = .ok (.ireturn, 1) := by decide +kernel
theorem dL_isAhead_136 : decode cL_isAhead 136 = .ok (.iload 9, 2) := by decide +kernel
theorem dL_isAhead_138 : decode cL_isAhead 138 = .ok (.iload 10, 2) := by decide +kernel
theorem dL_isAhead_140 : decode cL_isAhead 140 = .ok (.if_icmp .eq 22, 3) := by decide +kernel
theorem dL_isAhead_143 : decode cL_isAhead 143 = .ok (.iload 9, 2) := by decide +kernel
theorem dL_isAhead_145 : decode cL_isAhead 145 = .ok (.bipush 7, 2) := by decide +kernel
theorem dL_isAhead_147 : decode cL_isAhead 147 = .ok (.iand, 1) := by decide +kernel
theorem dL_isAhead_148 : decode cL_isAhead 148 = .ok (.iload 10, 2) := by decide +kernel
theorem dL_isAhead_150 : decode cL_isAhead 150 = .ok (.bipush 7, 2) := by decide +kernel
theorem dL_isAhead_152 : decode cL_isAhead 152 = .ok (.iand, 1) := by decide +kernel
theorem dL_isAhead_153 : decode cL_isAhead 153 = .ok (.if_icmp .ge 7, 3) := by decide +kernel
theorem dL_isAhead_156 : decode cL_isAhead 156 = .ok (.iconst 1, 1) := by decide +kernel
theorem dL_isAhead_157 : decode cL_isAhead 157 = .ok (.goto 4, 3) := by decide +kernel
theorem dL_isAhead_160 : decode cL_isAhead 160 = .ok (.iconst 0, 1) := by decide +kernel
theorem dL_isAhead_161 : decode cL_isAhead 161 = .ok (.ireturn, 1) := by decide +kernel
theorem dL_isAhead_162 : decode cL_isAhead 162 = .ok (.iinc 8 1, 3) := by decide +kernel
theorem dL_isAhead_165 : decode cL_isAhead 165 = .ok (.goto (-98), 3) := by decide +kernel
theorem dL_isAhead_168 : decode cL_isAhead 168 = .ok (.iconst 0, 1) := by decide +kernel
theorem dL_isAhead_169 : decode cL_isAhead 169 = .ok (.ireturn, 1) := by decide +kernel
theorem dL_split_0 : decode cL_split 0 = .ok (.aload 8, 2) := by decide +kernel
theorem dL_split_2 : decode cL_split 2 = .ok (.iconst 3, 1) := by decide +kernel
theorem dL_split_3 : decode cL_split 3 = .ok (.iconst 0, 1) := by decide +kernel
theorem dL_split_4 : decode cL_split 4 = .ok (.iastore, 1) := by decide +kernel
theorem dL_split_5 : decode cL_split 5 = .ok (.aload 8, 2) := by decide +kernel
theorem dL_split_7 : decode cL_split 7 = .ok (.iconst 4, 1) := by decide +kernel
theorem dL_split_8 : decode cL_split 8 = .ok (.iconst 1, 1) := by decide +kernel
theorem dL_split_9 : decode cL_split 9 = .ok (.iastore, 1) := by decide +kernel
theorem dL_split_10 : decode cL_split 10 = .ok (.aload 7, 2) := by decide +kernel
theorem dL_split_12 : decode cL_split 12 = .ok (.iconst 0, 1) := by decide +kernel
theorem dL_split_13 : decode cL_split 13 = .ok (.lconst 0, 1) := by decide +kernel
theorem dL_split_14 : decode cL_split 14 = .ok (.lastore, 1) := by decide +kernel
theorem dL_split_15 : decode cL_split 15 = .ok (.iload_n 0, 1) := by decide +kernel
theorem dL_split_16 : decode cL_split 16 = .ok (.invokestatic 59, 3) := by decide +kernel
theorem dL_split_19 : decode cL_split 19 = .ok (.istore 9, 2) := by decide +kernel
theorem dL_split_21 : decode cL_split 21 = .ok (.iconst 0, 1) := by decide +kernel
theorem dL_split_22 : decode cL_split 22 = .ok (.istore 10, 2) := by decide +kernel
theorem dL_split_24 : decode cL_split 24 = .ok (.iload 10, 2) := by decide +kernel
theorem dL_split_26 : decode cL_split 26 = .ok (.aload 8, 2) := by decide +kernel
theorem dL_split_28 : decode cL_split 28 = .ok (.iconst 4, 1) := by decide +kernel
theorem dL_split_29 : decode cL_split 29 = .ok (.iaload, 1) := by decide +kernel
theorem dL_split_30 : decode cL_split 30 = .ok (.if_icmp .ge 377, 3) := by decide +kernel
theorem dL_split_33 : decode cL_split 33 = .ok (.aload 7, 2) := by decide +kernel
theorem dL_split_35 : decode cL_split 35 = .ok (.iload 10, 2) := by decide +kernel
theorem dL_split_37 : decode cL_split 37 = .ok (.laload, 1) := by decide +kernel
theorem dL_split_38 : decode cL_split 38 = .ok (.lstore 11, 2) := by decide +kernel
theorem dL_split_40 : decode cL_split 40 = .ok (.lload 11, 2) := by decide +kernel
theorem dL_split_42 : decode cL_split 42 = .ok (.aload_n 1, 1) := by decide +kernel
theorem dL_split_43 : decode cL_split 43 = .ok (.aload 5, 2) := by decide +kernel
theorem dL_split_45 : decode cL_split 45 = .ok (.invokestatic 88, 3) := by decide +kernel
theorem dL_split_48 : decode cL_split 48 = .ok (.istore 13, 2) := by decide +kernel
theorem dL_split_50 : decode cL_split 50 = .ok (.lload 11, 2) := by decide +kernel
theorem dL_split_52 : decode cL_split 52 = .ok (.lconst 0, 1) := by decide +kernel
theorem dL_split_53 : decode cL_split 53 = .ok (.lcmp, 1) := by decide +kernel
theorem dL_split_54 : decode cL_split 54 = .ok (.ifCond .ne 7, 3) := by decide +kernel
theorem dL_split_57 : decode cL_split 57 = .ok (.iconst (-1), 1) := by decide +kernel
theorem dL_split_58 : decode cL_split 58 = .ok (.goto 14, 3) := by decide +kernel
theorem dL_split_61 : decode cL_split 61 = .ok (.lload 11, 2) := by decide +kernel
theorem dL_split_63 : decode cL_split 63 = .ok (.iconst 3, 1) := by decide +kernel
theorem dL_split_64 : decode cL_split 64 = .ok (.lshr, 1) := by decide +kernel
theorem dL_split_65 : decode cL_split 65 = .ok (.ldc2_w 73, 3) := by decide +kernel
theorem dL_split_68 : decode cL_split 68 = .ok (.land, 1) := by decide +kernel
theorem dL_split_69 : decode cL_split 69 = .ok (.l2i, 1) := by decide +kernel
theorem dL_split_70 : decode cL_split 70 = .ok (.iconst 1, 1) := by decide +kernel
theorem dL_split_71 : decode cL_split 71 = .ok (.isub, 1) := by decide +kernel
theorem dL_split_72 : decode cL_split 72 = .ok (.istore 14, 2) := by decide +kernel
theorem dL_split_74 : decode cL_split 74 = .ok (.iconst 0, 1) := by decide +kernel
theorem dL_split_75 : decode cL_split 75 = .ok (.istore 15, 2) := by decide +kernel
theorem dL_split_77 : decode cL_split 77 = .ok (.iload 15, 2) := by decide +kernel
theorem dL_split_79 : decode cL_split 79 = .ok (.aload 8, 2) := by decide +kernel
theorem dL_split_81 : decode cL_split 81 = .ok (.iconst 0, 1) := by decide +kernel
theorem dL_split_82 : decode cL_split 82 = .ok (.iaload, 1) := by decide +kernel
theorem dL_split_83 : decode cL_split 83 = .ok (.if_icmp .ge 318, 3) := by decide +kernel
theorem dL_split_86 : decode cL_split 86 = .ok (.iload 13, 2) := by decide +kernel
theorem dL_split_88 : decode cL_split 88 = .ok (.aload_n 1, 1) := by decide +kernel
theorem dL_split_89 : decode cL_split 89 = .ok (.iload 15, 2) := by decide +kernel
theorem dL_split_91 : decode cL_split 91 = .ok (.iaload, 1) := by decide +kernel
theorem dL_split_92 : decode cL_split 92 = .ok (.invokestatic 59, 3) := by decide +kernel
theorem dL_split_95 : decode cL_split 95 = .ok (.iadd, 1) := by decide +kernel
theorem dL_split_96 : decode cL_split 96 = .ok (.istore 16, 2) := by decide +kernel
theorem dL_split_98 : decode cL_split 98 = .ok (.iload_n 0, 1) := by decide +kernel
theorem dL_split_99 : decode cL_split 99 = .ok (.iload 13, 2) := by decide +kernel
theorem dL_split_101 : decode cL_split 101 = .ok (.aload_n 1, 1) := by decide +kernel
theorem dL_split_102 : decode cL_split 102 = .ok (.iload 15, 2) := by decide +kernel
theorem dL_split_104 : decode cL_split 104 = .ok (.iaload, 1) := by decide +kernel
theorem dL_split_105 : decode cL_split 105 = .ok (.invokestatic 59, 3) := by decide +kernel
theorem dL_split_108 : decode cL_split 108 = .ok (.invokestatic 92, 3) := by decide +kernel
theorem dL_split_111 : decode cL_split 111 = .ok (.aload_n 1, 1) := by decide +kernel
theorem dL_split_112 : decode cL_split 112 = .ok (.iload 15, 2) := by decide +kernel
theorem dL_split_114 : decode cL_split 114 = .ok (.iaload, 1) := by decide +kernel
theorem dL_split_115 : decode cL_split 115 = .ok (.if_icmp .ne 280, 3) := by decide +kernel
theorem dL_split_118 : decode cL_split 118 = .ok (.iload 14, 2) := by decide +kernel
theorem dL_split_120 : decode cL_split 120 = .ok (.ifCond .lt 21, 3) := by decide +kernel
theorem dL_split_123 : decode cL_split 123 = .ok (.aload_n 3, 1) := by decide +kernel
theorem dL_split_124 : decode cL_split 124 = .ok (.iload 14, 2) := by decide +kernel
theorem dL_split_126 : decode cL_split 126 = .ok (.iaload, 1) := by decide +kernel
theorem dL_split_127 : decode cL_split 127 = .ok (.iconst 3, 1) := by decide +kernel
theorem dL_split_128 : decode cL_split 128 = .ok (.iload 15, 2) := by decide +kernel
theorem dL_split_130 : decode cL_split 130 = .ok (.iadd, 1) := by decide +kernel
theorem dL_split_131 : decode cL_split 131 = .ok (.ishr, 1) := by decide +kernel
theorem dL_split_132 : decode cL_split 132 = .ok (.iconst 1, 1) := by decide +kernel
theorem dL_split_133 : decode cL_split 133 = .ok (.iand, 1) := by decide +kernel
theorem dL_split_134 : decode cL_split 134 = .ok (.iconst 1, 1) := by decide +kernel
theorem dL_split_135 : decode cL_split 135 = .ok (.if_icmp .ne 6, 3) := by decide +kernel
theorem dL_split_138 : decode cL_split 138 = .ok (.goto 257, 3) := by decide +kernel
theorem dL_split_141 : decode cL_split 141 = .ok (.lload 11, 2) := by decide +kernel
theorem dL_split_143 : decode cL_split 143 = .ok (.bipush 8, 2) := by decide +kernel
theorem dL_split_145 : decode cL_split 145 = .ok (.lshl, 1) := by decide +kernel
theorem dL_split_146 : decode cL_split 146 = .ok (.ldc2_w 95, 3) := by decide +kernel
theorem dL_split_149 : decode cL_split 149 = .ok (.iload 15, 2) := by decide +kernel
theorem dL_split_151 : decode cL_split 151 = .ok (.iconst 1, 1) := by decide +kernel
theorem dL_split_152 : decode cL_split 152 = .ok (.iadd, 1) := by decide +kernel
theorem dL_split_153 : decode cL_split 153 = .ok (.i2l, 1) := by decide +kernel
theorem dL_split_154 : decode cL_split 154 = .ok (.lmul, 1) := by decide +kernel
theorem dL_split_155 : decode cL_split 155 = .ok (.lor, 1) := by decide +kernel
theorem dL_split_156 : decode cL_split 156 = .ok (.lstore 17, 2) := by decide +kernel
theorem dL_split_158 : decode cL_split 158 = .ok (.lload 11, 2) := by decide +kernel
theorem dL_split_160 : decode cL_split 160 = .ok (.lconst 0, 1) := by decide +kernel
theorem dL_split_161 : decode cL_split 161 = .ok (.lcmp, 1) := by decide +kernel
theorem dL_split_162 : decode cL_split 162 = .ok (.ifCond .ne 7, 3) := by decide +kernel
theorem dL_split_165 : decode cL_split 165 = .ok (.iconst 1, 1) := by decide +kernel
theorem dL_split_166 : decode cL_split 166 = .ok (.goto 15, 3) := by decide +kernel
theorem dL_split_169 : decode cL_split 169 = .ok (.iload 16, 2) := by decide +kernel
theorem dL_split_171 : decode cL_split 171 = .ok (.iload 9, 2) := by decide +kernel
theorem dL_split_173 : decode cL_split 173 = .ok (.if_icmp .ge 7, 3) := by decide +kernel
theorem dL_split_176 : decode cL_split 176 = .ok (.iconst 2, 1) := by decide +kernel
theorem dL_split_177 : decode cL_split 177 = .ok (.goto 4, 3) := by decide +kernel
theorem dL_split_180 : decode cL_split 180 = .ok (.iconst 0, 1) := by decide +kernel
theorem dL_split_181 : decode cL_split 181 = .ok (.iload 16, 2) := by decide +kernel
theorem dL_split_183 : decode cL_split 183 = .ok (.iload 9, 2) := by decide +kernel
theorem dL_split_185 : decode cL_split 185 = .ok (.if_icmp .ne 7, 3) := by decide +kernel
theorem dL_split_188 : decode cL_split 188 = .ok (.iconst 4, 1) := by decide +kernel
theorem dL_split_189 : decode cL_split 189 = .ok (.goto 4, 3) := by decide +kernel
theorem dL_split_192 : decode cL_split 192 = .ok (.iconst 0, 1) := by decide +kernel
theorem dL_split_193 : decode cL_split 193 = .ok (.iadd, 1) := by decide +kernel
theorem dL_split_194 : decode cL_split 194 = .ok (.istore 19, 2) := by decide +kernel
theorem dL_split_196 : decode cL_split 196 = .ok (.aload_n 3, 1) := by decide +kernel
theorem dL_split_197 : decode cL_split 197 = .ok (.iload 15, 2) := by decide +kernel
theorem dL_split_199 : decode cL_split 199 = .ok (.iaload, 1) := by decide +kernel
theorem dL_split_200 : decode cL_split 200 = .ok (.iload 19, 2) := by decide +kernel
theorem dL_split_202 : decode cL_split 202 = .ok (.iand, 1) := by decide +kernel
theorem dL_split_203 : decode cL_split 203 = .ok (.iload 19, 2) := by decide +kernel
theorem dL_split_205 : decode cL_split 205 = .ok (.if_icmp .eq 6, 3) := by decide +kernel
theorem dL_split_208 : decode cL_split 208 = .ok (.goto 187, 3) := by decide +kernel
theorem dL_split_211 : decode cL_split 211 = .ok (.iload 16, 2) := by decide +kernel
theorem dL_split_213 : decode cL_split 213 = .ok (.iload 9, 2) := by decide +kernel
theorem dL_split_215 : decode cL_split 215 = .ok (.if_icmp .ne 67, 3) := by decide +kernel
theorem dL_split_218 : decode cL_split 218 = .ok (.aload 8, 2) := by decide +kernel
theorem dL_split_220 : decode cL_split 220 = .ok (.iconst 3, 1) := by decide +kernel
theorem dL_split_221 : decode cL_split 221 = .ok (.iaload, 1) := by decide +kernel
theorem dL_split_222 : decode cL_split 222 = .ok (.istore 20, 2) := by decide +kernel
theorem dL_split_224 : decode cL_split 224 = .ok (.iload 20, 2) := by decide +kernel
theorem dL_split_226 : decode cL_split 226 = .ok (.ifCond .le 38, 3) := by decide +kernel
theorem dL_split_229 : decode cL_split 229 = .ok (.lload 17, 2) := by decide +kernel
theorem dL_split_231 : decode cL_split 231 = .ok (.aload 6, 2) := by decide +kernel
theorem dL_split_233 : decode cL_split 233 = .ok (.iload 20, 2) := by decide +kernel
theorem dL_split_235 : decode cL_split 235 = .ok (.iconst 1, 1) := by decide +kernel
theorem dL_split_236 : decode cL_split 236 = .ok (.isub, 1) := by decide +kernel
theorem dL_split_237 : decode cL_split 237 = .ok (.laload, 1) := by decide +kernel
theorem dL_split_238 : decode cL_split 238 = .ok (.aload_n 1, 1) := by decide +kernel
theorem dL_split_239 : decode cL_split 239 = .ok (.aload_n 2, 1) := by decide +kernel
theorem dL_split_240 : decode cL_split 240 = .ok (.invokestatic 97, 3) := by decide +kernel
theorem dL_split_243 : decode cL_split 243 = .ok (.ifCond .eq 21, 3) := by decide +kernel
theorem dL_split_246 : decode cL_split 246 = .ok (.aload 6, 2) := by decide +kernel
theorem dL_split_248 : decode cL_split 248 = .ok (.iload 20, 2) := by decide +kernel
theorem dL_split_250 : decode cL_split 250 = .ok (.aload 6, 2) := by decide +kernel
theorem dL_split_252 : decode cL_split 252 = .ok (.iload 20, 2) := by decide +kernel
theorem dL_split_254 : decode cL_split 254 = .ok (.iconst 1, 1) := by decide +kernel
theorem dL_split_255 : decode cL_split 255 = .ok (.isub, 1) := by decide +kernel
theorem dL_split_256 : decode cL_split 256 = .ok (.laload, 1) := by decide +kernel
theorem dL_split_257 : decode cL_split 257 = .ok (.lastore, 1) := by decide +kernel
theorem dL_split_258 : decode cL_split 258 = .ok (.iinc 20 (-1), 3) := by decide +kernel
theorem dL_split_261 : decode cL_split 261 = .ok (.goto (-37), 3) := by decide +kernel
theorem dL_split_264 : decode cL_split 264 = .ok (.aload 6, 2) := by decide +kernel
theorem dL_split_266 : decode cL_split 266 = .ok (.iload 20, 2) := by decide +kernel
theorem dL_split_268 : decode cL_split 268 = .ok (.lload 17, 2) := by decide +kernel
theorem dL_split_270 : decode cL_split 270 = .ok (.lastore, 1) := by decide +kernel
theorem dL_split_271 : decode cL_split 271 = .ok (.aload 8, 2) := by decide +kernel
theorem dL_split_273 : decode cL_split 273 = .ok (.iconst 3, 1) := by decide +kernel
theorem dL_split_274 : decode cL_split 274 = .ok (.dup2, 1) := by decide +kernel
theorem dL_split_275 : decode cL_split 275 = .ok (.iaload, 1) := by decide +kernel
theorem dL_split_276 : decode cL_split 276 = .ok (.iconst 1, 1) := by decide +kernel
theorem dL_split_277 : decode cL_split 277 = .ok (.iadd, 1) := by decide +kernel
theorem dL_split_278 : decode cL_split 278 = .ok (.iastore, 1) := by decide +kernel
theorem dL_split_279 : decode cL_split 279 = .ok (.goto 116, 3) := by decide +kernel
theorem dL_split_282 : decode cL_split 282 = .ok (.aload 7, 2) := by decide +kernel
theorem dL_split_284 : decode cL_split 284 = .ok (.aload 8, 2) := by decide +kernel
theorem dL_split_286 : decode cL_split 286 = .ok (.iconst 4, 1) := by decide +kernel
theorem dL_split_287 : decode cL_split 287 = .ok (.iaload, 1) := by decide +kernel
theorem dL_split_288 : decode cL_split 288 = .ok (.lload 17, 2) := by decide +kernel
theorem dL_split_290 : decode cL_split 290 = .ok (.lastore, 1) := by decide +kernel
theorem dL_split_291 : decode cL_split 291 = .ok (.aload 8, 2) := by decide +kernel
theorem dL_split_293 : decode cL_split 293 = .ok (.iconst 4, 1) := by decide +kernel
theorem dL_split_294 : decode cL_split 294 = .ok (.dup2, 1) := by decide +kernel
theorem dL_split_295 : decode cL_split 295 = .ok (.iaload, 1) := by decide +kernel
theorem dL_split_296 : decode cL_split 296 = .ok (.iconst 1, 1) := by decide +kernel
theorem dL_split_297 : decode cL_split 297 = .ok (.iadd, 1) := by decide +kernel
theorem dL_split_298 : decode cL_split 298 = .ok (.iastore, 1) := by decide +kernel
theorem dL_split_299 : decode cL_split 299 = .ok (.iconst 0, 1) := by decide +kernel
theorem dL_split_300 : decode cL_split 300 = .ok (.istore 20, 2) := by decide +kernel
theorem dL_split_302 : decode cL_split 302 = .ok (.iload 20, 2) := by decide +kernel
theorem dL_split_304 : decode cL_split 304 = .ok (.aload 8, 2) := by decide +kernel
theorem dL_split_306 : decode cL_split 306 = .ok (.iconst 1, 1) := by decide +kernel
theorem dL_split_307 : decode cL_split 307 = .ok (.iaload, 1) := by decide +kernel
theorem dL_split_308 : decode cL_split 308 = .ok (.if_icmp .ge 87, 3) := by decide +kernel
theorem dL_split_311 : decode cL_split 311 = .ok (.aload 4, 2) := by decide +kernel
theorem dL_split_313 : decode cL_split 313 = .ok (.iload 15, 2) := by decide +kernel
theorem dL_split_315 : decode cL_split 315 = .ok (.iaload, 1) := by decide +kernel
theorem dL_split_316 : decode cL_split 316 = .ok (.iload 20, 2) := by decide +kernel
theorem dL_split_318 : decode cL_split 318 = .ok (.ishr, 1) := by decide +kernel
theorem dL_split_319 : decode cL_split 319 = .ok (.iconst 1, 1) := by decide +kernel
theorem dL_split_320 : decode cL_split 320 = .ok (.iand, 1) := by decide +kernel
theorem dL_split_321 : decode cL_split 321 = .ok (.iconst 1, 1) := by decide +kernel
theorem dL_split_322 : decode cL_split 322 = .ok (.if_icmp .eq 67, 3) := by decide +kernel
theorem dL_split_325 : decode cL_split 325 = .ok (.iload_n 0, 1) := by decide +kernel
theorem dL_split_326 : decode cL_split 326 = .ok (.iload 16, 2) := by decide +kernel
theorem dL_split_328 : decode cL_split 328 = .ok (.aload 5, 2) := by decide +kernel
theorem dL_split_330 : decode cL_split 330 = .ok (.iload 20, 2) := by decide +kernel
theorem dL_split_332 : decode cL_split 332 = .ok (.iaload, 1) := by decide +kernel
theorem dL_split_333 : decode cL_split 333 = .ok (.invokestatic 59, 3) := by decide +kernel
theorem dL_split_336 : decode cL_split 336 = .ok (.invokestatic 92, 3) := by decide +kernel
theorem dL_split_339 : decode cL_split 339 = .ok (.aload 5, 2) := by decide +kernel
theorem dL_split_341 : decode cL_split 341 = .ok (.iload 20, 2) := by decide +kernel
theorem dL_split_343 : decode cL_split 343 = .ok (.iaload, 1) := by decide +kernel
theorem dL_split_344 : decode cL_split 344 = .ok (.if_icmp .ne 45, 3) := by decide +kernel
theorem dL_split_347 : decode cL_split 347 = .ok (.iload 16, 2) := by decide +kernel
theorem dL_split_349 : decode cL_split 349 = .ok (.aload 5, 2) := by decide +kernel
theorem dL_split_351 : decode cL_split 351 = .ok (.iload 20, 2) := by decide +kernel
theorem dL_split_353 : decode cL_split 353 = .ok (.iaload, 1) := by decide +kernel
theorem dL_split_354 : decode cL_split 354 = .ok (.invokestatic 59, 3) := by decide +kernel
theorem dL_split_357 : decode cL_split 357 = .ok (.iadd, 1) := by decide +kernel
theorem dL_split_358 : decode cL_split 358 = .ok (.iload 9, 2) := by decide +kernel
theorem dL_split_360 : decode cL_split 360 = .ok (.if_icmp .ne 6, 3) := by decide +kernel
theorem dL_split_363 : decode cL_split 363 = .ok (.goto 26, 3) := by decide +kernel
theorem dL_split_366 : decode cL_split 366 = .ok (.aload 7, 2) := by decide +kernel
theorem dL_split_368 : decode cL_split 368 = .ok (.aload 8, 2) := by decide +kernel
theorem dL_split_370 : decode cL_split 370 = .ok (.iconst 4, 1) := by decide +kernel
theorem dL_split_371 : decode cL_split 371 = .ok (.iaload, 1) := by decide +kernel
theorem dL_split_372 : decode cL_split 372 = .ok (.lload 17, 2) := by decide +kernel
theorem dL_split_374 : decode cL_split 374 = .ok (.iload 20, 2) := by decide +kernel
theorem dL_split_376 : decode cL_split 376 = .ok (.i2l, 1) := by decide +kernel
theorem dL_split_377 : decode cL_split 377 = .ok (.lconst 1, 1) := by decide +kernel
theorem dL_split_378 : decode cL_split 378 = .ok (.ladd, 1) := by decide +kernel
theorem dL_split_379 : decode cL_split 379 = .ok (.lor, 1) := by decide +kernel
theorem dL_split_380 : decode cL_split 380 = .ok (.lastore, 1) := by decide +kernel
theorem dL_split_381 : decode cL_split 381 = .ok (.aload 8, 2) := by decide +kernel
theorem dL_split_383 : decode cL_split 383 = .ok (.iconst 4, 1) := by decide +kernel
theorem dL_split_384 : decode cL_split 384 = .ok (.dup2, 1) := by decide +kernel
theorem dL_split_385 : decode cL_split 385 = .ok (.iaload, 1) := by decide +kernel
theorem dL_split_386 : decode cL_split 386 = .ok (.iconst 1, 1) := by decide +kernel
theorem dL_split_387 : decode cL_split 387 = .ok (.iadd, 1) := by decide +kernel
theorem dL_split_388 : decode cL_split 388 = .ok (.iastore, 1) := by decide +kernel
theorem dL_split_389 : decode cL_split 389 = .ok (.iinc 20 1, 3) := by decide +kernel
theorem dL_split_392 : decode cL_split 392 = .ok (.goto (-90), 3) := by decide +kernel
theorem dL_split_395 : decode cL_split 395 = .ok (.iinc 15 1, 3) := by decide +kernel
theorem dL_split_398 : decode cL_split 398 = .ok (.goto (-321), 3) := by decide +kernel
theorem dL_split_401 : decode cL_split 401 = .ok (.iinc 10 1, 3) := by decide +kernel
theorem dL_split_404 : decode cL_split 404 = .ok (.goto (-380), 3) := by decide +kernel
theorem dL_split_407 : decode cL_split 407 = .ok (.return_, 1) := by decide +kernel
theorem dL_text_0 : decode cL_text 0 = .ok (.iconst 1, 1) := by decide +kernel
theorem dL_text_1 : decode cL_text 1 = .ok (.iload_n 0, 1) := by decide +kernel
theorem dL_text_2 : decode cL_text 2 = .ok (.iload_n 1, 1) := by decide +kernel
theorem dL_text_3 : decode cL_text 3 = .ok (.invokestatic 101, 3) := by decide +kernel
theorem dL_text_6 : decode cL_text 6 = .ok (.iadd, 1) := by decide +kernel
theorem dL_text_7 : decode cL_text 7 = .ok (.istore_n 2, 1) := by decide +kernel
theorem dL_text_8 : decode cL_text 8 = .ok (.iconst 1, 1) := by decide +kernel
theorem dL_text_9 : decode cL_text 9 = .ok (.istore_n 3, 1) := by decide +kernel
theorem dL_text_10 : decode cL_text 10 = .ok (.iconst 0, 1) := by decide +kernel
theorem dL_text_11 : decode cL_text 11 = .ok (.istore 4, 2) := by decide +kernel
theorem dL_text_13 : decode cL_text 13 = .ok (.iload 4, 2) := by decide +kernel
theorem dL_text_15 : decode cL_text 15 = .ok (.iload_n 2, 1) := by decide +kernel
theorem dL_text_16 : decode cL_text 16 = .ok (.if_icmp .ge 52, 3) := by decide +kernel
theorem dL_text_19 : decode cL_text 19 = .ok (.bipush 10, 2) := by decide +kernel
theorem dL_text_21 : decode cL_text 21 = .ok (.iload_n 3, 1) := by decide +kernel
theorem dL_text_22 : decode cL_text 22 = .ok (.imul, 1) := by decide +kernel
theorem dL_text_23 : decode cL_text 23 = .ok (.iload_n 0, 1) := by decide +kernel
theorem dL_text_24 : decode cL_text 24 = .ok (.iconst 4, 1) := by decide +kernel
theorem dL_text_25 : decode cL_text 25 = .ok (.ishr, 1) := by decide +kernel
theorem dL_text_26 : decode cL_text 26 = .ok (.iconst 3, 1) := by decide +kernel
theorem dL_text_27 : decode cL_text 27 = .ok (.iand, 1) := by decide +kernel
theorem dL_text_28 : decode cL_text 28 = .ok (.ifCond .ne 19, 3) := by decide +kernel
theorem dL_text_31 : decode cL_text 31 = .ok (.iload_n 0, 1) := by decide +kernel
theorem dL_text_32 : decode cL_text 32 = .ok (.bipush 6, 2) := by decide +kernel
theorem dL_text_34 : decode cL_text 34 = .ok (.iconst 2, 1) := by decide +kernel
theorem dL_text_35 : decode cL_text 35 = .ok (.iload 4, 2) := by decide +kernel
theorem dL_text_37 : decode cL_text 37 = .ok (.imul, 1) := by decide +kernel
theorem dL_text_38 : decode cL_text 38 = .ok (.iadd, 1) := by decide +kernel
theorem dL_text_39 : decode cL_text 39 = .ok (.ishr, 1) := by decide +kernel
theorem dL_text_40 : decode cL_text 40 = .ok (.iconst 3, 1) := by decide +kernel
theorem dL_text_41 : decode cL_text 41 = .ok (.invokestatic 101, 3) := by decide +kernel
theorem dL_text_44 : decode cL_text 44 = .ok (.goto 16, 3) := by decide +kernel
theorem dL_text_47 : decode cL_text 47 = .ok (.iload_n 0, 1) := by decide +kernel
theorem dL_text_48 : decode cL_text 48 = .ok (.bipush 6, 2) := by decide +kernel
theorem dL_text_50 : decode cL_text 50 = .ok (.iconst 2, 1) := by decide +kernel
theorem dL_text_51 : decode cL_text 51 = .ok (.iload 4, 2) := by decide +kernel
theorem dL_text_53 : decode cL_text 53 = .ok (.imul, 1) := by decide +kernel
theorem dL_text_54 : decode cL_text 54 = .ok (.iadd, 1) := by decide +kernel
theorem dL_text_55 : decode cL_text 55 = .ok (.ishr, 1) := by decide +kernel
theorem dL_text_56 : decode cL_text 56 = .ok (.iconst 2, 1) := by decide +kernel
theorem dL_text_57 : decode cL_text 57 = .ok (.invokestatic 101, 3) := by decide +kernel
theorem dL_text_60 : decode cL_text 60 = .ok (.iadd, 1) := by decide +kernel
theorem dL_text_61 : decode cL_text 61 = .ok (.istore_n 3, 1) := by decide +kernel
theorem dL_text_62 : decode cL_text 62 = .ok (.iinc 4 1, 3) := by decide +kernel
theorem dL_text_65 : decode cL_text 65 = .ok (.goto (-52), 3) := by decide +kernel
theorem dL_text_68 : decode cL_text 68 = .ok (.iload_n 3, 1) := by decide +kernel
theorem dL_text_69 : decode cL_text 69 = .ok (.ireturn, 1) := by decide +kernel
theorem dL_builds_0 : decode cL_builds 0 = .ok (.iload_n 2, 1) := by decide +kernel
theorem dL_builds_1 : decode cL_builds 1 = .ok (.aload 9, 2) := by decide +kernel
theorem dL_builds_3 : decode cL_builds 3 = .ok (.iconst 0, 1) := by decide +kernel
theorem dL_builds_4 : decode cL_builds 4 = .ok (.iaload, 1) := by decide +kernel
theorem dL_builds_5 : decode cL_builds 5 = .ok (.iconst 1, 1) := by decide +kernel
theorem dL_builds_6 : decode cL_builds 6 = .ok (.iadd, 1) := by decide +kernel
theorem dL_builds_7 : decode cL_builds 7 = .ok (.invokestatic 101, 3) := by decide +kernel
theorem dL_builds_10 : decode cL_builds 10 = .ok (.istore 10, 2) := by decide +kernel
theorem dL_builds_12 : decode cL_builds 12 = .ok (.iload_n 1, 1) := by decide +kernel
theorem dL_builds_13 : decode cL_builds 13 = .ok (.bipush 7, 2) := by decide +kernel
theorem dL_builds_15 : decode cL_builds 15 = .ok (.if_icmp .ge 369, 3) := by decide +kernel
theorem dL_builds_18 : decode cL_builds 18 = .ok (.iload_n 3, 1) := by decide +kernel
theorem dL_builds_19 : decode cL_builds 19 = .ok (.iconst 4, 1) := by decide +kernel
theorem dL_builds_20 : decode cL_builds 20 = .ok (.invokestatic 104, 3) := by decide +kernel
theorem dL_builds_23 : decode cL_builds 23 = .ok (.istore 11, 2) := by decide +kernel
theorem dL_builds_25 : decode cL_builds 25 = .ok (.iload_n 2, 1) := by decide +kernel
theorem dL_builds_26 : decode cL_builds 26 = .ok (.bipush 6, 2) := by decide +kernel
theorem dL_builds_28 : decode cL_builds 28 = .ok (.iand, 1) := by decide +kernel
theorem dL_builds_29 : decode cL_builds 29 = .ok (.ifCond .ne 17, 3) := by decide +kernel
theorem dL_builds_32 : decode cL_builds 32 = .ok (.iconst 1, 1) := by decide +kernel
theorem dL_builds_33 : decode cL_builds 33 = .ok (.iload_n 2, 1) := by decide +kernel
theorem dL_builds_34 : decode cL_builds 34 = .ok (.iconst 3, 1) := by decide +kernel
theorem dL_builds_35 : decode cL_builds 35 = .ok (.ishr, 1) := by decide +kernel
theorem dL_builds_36 : decode cL_builds 36 = .ok (.sipush 9999, 3) := by decide +kernel
theorem dL_builds_39 : decode cL_builds 39 = .ok (.invokestatic 101, 3) := by decide +kernel
theorem dL_builds_42 : decode cL_builds 42 = .ok (.iadd, 1) := by decide +kernel
theorem dL_builds_43 : decode cL_builds 43 = .ok (.goto 37, 3) := by decide +kernel
theorem dL_builds_46 : decode cL_builds 46 = .ok (.iload_n 2, 1) := by decide +kernel
theorem dL_builds_47 : decode cL_builds 47 = .ok (.bipush 6, 2) := by decide +kernel
theorem dL_builds_49 : decode cL_builds 49 = .ok (.iand, 1) := by decide +kernel
theorem dL_builds_50 : decode cL_builds 50 = .ok (.iconst 2, 1) := by decide +kernel
theorem dL_builds_51 : decode cL_builds 51 = .ok (.if_icmp .ne 18, 3) := by decide +kernel
theorem dL_builds_54 : decode cL_builds 54 = .ok (.sipush 9990, 3) := by decide +kernel
theorem dL_builds_57 : decode cL_builds 57 = .ok (.iload_n 2, 1) := by decide +kernel
theorem dL_builds_58 : decode cL_builds 58 = .ok (.iconst 3, 1) := by decide +kernel
theorem dL_builds_59 : decode cL_builds 59 = .ok (.ishr, 1) := by decide +kernel
theorem dL_builds_60 : decode cL_builds 60 = .ok (.bipush 10, 2) := by decide +kernel
theorem dL_builds_62 : decode cL_builds 62 = .ok (.invokestatic 101, 3) := by decide +kernel
theorem dL_builds_65 : decode cL_builds 65 = .ok (.iadd, 1) := by decide +kernel
theorem dL_builds_66 : decode cL_builds 66 = .ok (.goto 14, 3) := by decide +kernel
theorem dL_builds_69 : decode cL_builds 69 = .ok (.iconst 1, 1) := by decide +kernel
theorem dL_builds_70 : decode cL_builds 70 = .ok (.iload_n 2, 1) := by decide +kernel
theorem dL_builds_71 : decode cL_builds 71 = .ok (.iconst 3, 1) := by decide +kernel
theorem dL_builds_72 : decode cL_builds 72 = .ok (.ishr, 1) := by decide +kernel
theorem dL_builds_73 : decode cL_builds 73 = .ok (.sipush 300, 3) := by decide +kernel
theorem dL_builds_76 : decode cL_builds 76 = .ok (.invokestatic 101, 3) := by decide +kernel
theorem dL_builds_79 : decode cL_builds 79 = .ok (.iadd, 1) := by decide +kernel
theorem dL_builds_80 : decode cL_builds 80 = .ok (.istore 12, 2) := by decide +kernel
theorem dL_builds_82 : decode cL_builds 82 = .ok (.iload_n 2, 1) := by decide +kernel
theorem dL_builds_83 : decode cL_builds 83 = .ok (.ldc 107, 2) := by decide +kernel
theorem dL_builds_85 : decode cL_builds 85 = .ok (.iand, 1) := by decide +kernel
theorem dL_builds_86 : decode cL_builds 86 = .ok (.ifCond .ne 17, 3) := by decide +kernel
theorem dL_builds_89 : decode cL_builds 89 = .ok (.iconst 1, 1) := by decide +kernel
theorem dL_builds_90 : decode cL_builds 90 = .ok (.iload_n 2, 1) := by decide +kernel
theorem dL_builds_91 : decode cL_builds 91 = .ok (.bipush 18, 2) := by decide +kernel
theorem dL_builds_93 : decode cL_builds 93 = .ok (.ishr, 1) := by decide +kernel
theorem dL_builds_94 : decode cL_builds 94 = .ok (.bipush 7, 2) := by decide +kernel
theorem dL_builds_96 : decode cL_builds 96 = .ok (.invokestatic 101, 3) := by decide +kernel
theorem dL_builds_99 : decode cL_builds 99 = .ok (.iadd, 1) := by decide +kernel
theorem dL_builds_100 : decode cL_builds 100 = .ok (.goto 5, 3) := by decide +kernel
theorem dL_builds_103 : decode cL_builds 103 = .ok (.bipush 7, 2) := by decide +kernel
theorem dL_builds_105 : decode cL_builds 105 = .ok (.istore 13, 2) := by decide +kernel
theorem dL_builds_107 : decode cL_builds 107 = .ok (.aload_n 0, 1) := by decide +kernel
theorem dL_builds_108 : decode cL_builds 108 = .ok (.iconst 1, 1) := by decide +kernel
theorem dL_builds_109 : decode cL_builds 109 = .ok (.iload 12, 2) := by decide +kernel
theorem dL_builds_111 : decode cL_builds 111 = .ok (.iload 13, 2) := by decide +kernel
theorem dL_builds_113 : decode cL_builds 113 = .ok (.invokestatic 108, 3) := by decide +kernel
theorem dL_builds_116 : decode cL_builds 116 = .ok (.bipush (-72), 2) := by decide +kernel
theorem dL_builds_118 : decode cL_builds 118 = .ok (.if_icmp .ne 124, 3) := by decide +kernel
theorem dL_builds_121 : decode cL_builds 121 = .ok (.aload_n 0, 1) := by decide +kernel
theorem dL_builds_122 : decode cL_builds 122 = .ok (.iconst 2, 1) := by decide +kernel
theorem dL_builds_123 : decode cL_builds 123 = .ok (.iload 12, 2) := by decide +kernel
theorem dL_builds_125 : decode cL_builds 125 = .ok (.iload 13, 2) := by decide +kernel
theorem dL_builds_127 : decode cL_builds 127 = .ok (.invokestatic 108, 3) := by decide +kernel
theorem dL_builds_130 : decode cL_builds 130 = .ok (.bipush (-72), 2) := by decide +kernel
theorem dL_builds_132 : decode cL_builds 132 = .ok (.if_icmp .ne 110, 3) := by decide +kernel
theorem dL_builds_135 : decode cL_builds 135 = .ok (.aload_n 0, 1) := by decide +kernel
theorem dL_builds_136 : decode cL_builds 136 = .ok (.ldc 58, 2) := by decide +kernel
theorem dL_builds_138 : decode cL_builds 138 = .ok (.iload 12, 2) := by decide +kernel
theorem dL_builds_140 : decode cL_builds 140 = .ok (.iload 13, 2) := by decide +kernel
theorem dL_builds_142 : decode cL_builds 142 = .ok (.invokestatic 108, 3) := by decide +kernel
theorem dL_builds_145 : decode cL_builds 145 = .ok (.bipush (-72), 2) := by decide +kernel
theorem dL_builds_147 : decode cL_builds 147 = .ok (.if_icmp .ne 95, 3) := by decide +kernel
theorem dL_builds_150 : decode cL_builds 150 = .ok (.aload_n 0, 1) := by decide +kernel
theorem dL_builds_151 : decode cL_builds 151 = .ok (.iload 11, 2) := by decide +kernel
theorem dL_builds_153 : decode cL_builds 153 = .ok (.iconst 0, 1) := by decide +kernel
theorem dL_builds_154 : decode cL_builds 154 = .ok (.iload 13, 2) := by decide +kernel
theorem dL_builds_156 : decode cL_builds 156 = .ok (.invokestatic 108, 3) := by decide +kernel
theorem dL_builds_159 : decode cL_builds 159 = .ok (.bipush (-72), 2) := by decide +kernel
theorem dL_builds_161 : decode cL_builds 161 = .ok (.if_icmp .ne 81, 3) := by decide +kernel
theorem dL_builds_164 : decode cL_builds 164 = .ok (.aload_n 0, 1) := by decide +kernel
theorem dL_builds_165 : decode cL_builds 165 = .ok (.iload 11, 2) := by decide +kernel
theorem dL_builds_167 : decode cL_builds 167 = .ok (.sipush 10000, 3) := by decide +kernel
theorem dL_builds_170 : decode cL_builds 170 = .ok (.iload 13, 2) := by decide +kernel
theorem dL_builds_172 : decode cL_builds 172 = .ok (.invokestatic 108, 3) := by decide +kernel
theorem dL_builds_175 : decode cL_builds 175 = .ok (.bipush (-72), 2) := by decide +kernel
theorem dL_builds_177 : decode cL_builds 177 = .ok (.if_icmp .ne 65, 3) := by decide +kernel
theorem dL_builds_180 : decode cL_builds 180 = .ok (.aload_n 0, 1) := by decide +kernel
theorem dL_builds_181 : decode cL_builds 181 = .ok (.iload 11, 2) := by decide +kernel
theorem dL_builds_183 : decode cL_builds 183 = .ok (.iload 12, 2) := by decide +kernel
theorem dL_builds_185 : decode cL_builds 185 = .ok (.iconst 0, 1) := by decide +kernel
theorem dL_builds_186 : decode cL_builds 186 = .ok (.invokestatic 108, 3) := by decide +kernel
theorem dL_builds_189 : decode cL_builds 189 = .ok (.bipush (-72), 2) := by decide +kernel
theorem dL_builds_191 : decode cL_builds 191 = .ok (.if_icmp .ne 51, 3) := by decide +kernel
theorem dL_builds_194 : decode cL_builds 194 = .ok (.aload_n 0, 1) := by decide +kernel
theorem dL_builds_195 : decode cL_builds 195 = .ok (.iload 11, 2) := by decide +kernel
theorem dL_builds_197 : decode cL_builds 197 = .ok (.iload 12, 2) := by decide +kernel
theorem dL_builds_199 : decode cL_builds 199 = .ok (.bipush 8, 2) := by decide +kernel
theorem dL_builds_201 : decode cL_builds 201 = .ok (.invokestatic 108, 3) := by decide +kernel
theorem dL_builds_204 : decode cL_builds 204 = .ok (.bipush (-72), 2) := by decide +kernel
theorem dL_builds_206 : decode cL_builds 206 = .ok (.if_icmp .ne 36, 3) := by decide +kernel
theorem dL_builds_209 : decode cL_builds 209 = .ok (.aload_n 0, 1) := by decide +kernel
theorem dL_builds_210 : decode cL_builds 210 = .ok (.iload 11, 2) := by decide +kernel
theorem dL_builds_212 : decode cL_builds 212 = .ok (.ldc 111, 2) := by decide +kernel
theorem dL_builds_214 : decode cL_builds 214 = .ok (.iadd, 1) := by decide +kernel
theorem dL_builds_215 : decode cL_builds 215 = .ok (.iload 12, 2) := by decide +kernel
theorem dL_builds_217 : decode cL_builds 217 = .ok (.iload 13, 2) := by decide +kernel
theorem dL_builds_219 : decode cL_builds 219 = .ok (.invokestatic 108, 3) := by decide +kernel
theorem dL_builds_222 : decode cL_builds 222 = .ok (.bipush (-72), 2) := by decide +kernel
theorem dL_builds_224 : decode cL_builds 224 = .ok (.if_icmp .ne 18, 3) := by decide +kernel
theorem dL_builds_227 : decode cL_builds 227 = .ok (.aload_n 0, 1) := by decide +kernel
theorem dL_builds_228 : decode cL_builds 228 = .ok (.bipush (-12), 2) := by decide +kernel
theorem dL_builds_230 : decode cL_builds 230 = .ok (.iload 12, 2) := by decide +kernel
theorem dL_builds_232 : decode cL_builds 232 = .ok (.iload 13, 2) := by decide +kernel
theorem dL_builds_234 : decode cL_builds 234 = .ok (.invokestatic 108, 3) := by decide +kernel
theorem dL_builds_237 : decode cL_builds 237 = .ok (.bipush (-72), 2) := by decide +kernel
theorem dL_builds_239 : decode cL_builds 239 = .ok (.if_icmp .eq 5, 3) := by decide +kernel
theorem dL_builds_242 : decode cL_builds 242 = .ok (.iconst 0, 1) := by decide +kernel
theorem dL_builds_243 : decode cL_builds 243 = .ok (.ireturn, 1) := by decide +kernel
theorem dL_builds_244 : decode cL_builds 244 = .ok (.aload 9, 2) := by decide +kernel
theorem dL_builds_246 : decode cL_builds 246 = .ok (.iconst 0, 1) := by decide +kernel
theorem dL_builds_247 : decode cL_builds 247 = .ok (.iaload, 1) := by decide +kernel
theorem dL_builds_248 : decode cL_builds 248 = .ok (.bipush 16, 2) := by decide +kernel
theorem dL_builds_250 : decode cL_builds 250 = .ok (.if_icmp .ne 7, 3) := by decide +kernel
theorem dL_builds_253 : decode cL_builds 253 = .ok (.iconst 1, 1) := by decide +kernel
theorem dL_builds_254 : decode cL_builds 254 = .ok (.goto 4, 3) := by decide +kernel
theorem dL_builds_257 : decode cL_builds 257 = .ok (.iconst 0, 1) := by decide +kernel
theorem dL_builds_258 : decode cL_builds 258 = .ok (.istore 14, 2) := by decide +kernel
theorem dL_builds_260 : decode cL_builds 260 = .ok (.iconst 0, 1) := by decide +kernel
theorem dL_builds_261 : decode cL_builds 261 = .ok (.istore 15, 2) := by decide +kernel
theorem dL_builds_263 : decode cL_builds 263 = .ok (.iload 15, 2) := by decide +kernel
theorem dL_builds_265 : decode cL_builds 265 = .ok (.aload 9, 2) := by decide +kernel
theorem dL_builds_267 : decode cL_builds 267 = .ok (.iconst 0, 1) := by decide +kernel
theorem dL_builds_268 : decode cL_builds 268 = .ok (.iaload, 1) := by decide +kernel
theorem dL_builds_269 : decode cL_builds 269 = .ok (.if_icmp .ge 29, 3) := by decide +kernel
theorem dL_builds_272 : decode cL_builds 272 = .ok (.iload 14, 2) := by decide +kernel
theorem dL_builds_274 : decode cL_builds 274 = .ok (.aload 4, 2) := by decide +kernel
theorem dL_builds_276 : decode cL_builds 276 = .ok (.iload 15, 2) := by decide +kernel
theorem dL_builds_278 : decode cL_builds 278 = .ok (.iaload, 1) := by decide +kernel
theorem dL_builds_279 : decode cL_builds 279 = .ok (.iload 11, 2) := by decide +kernel
theorem dL_builds_281 : decode cL_builds 281 = .ok (.if_icmp .ne 7, 3) := by decide +kernel
theorem dL_builds_284 : decode cL_builds 284 = .ok (.iconst 1, 1) := by decide +kernel
theorem dL_builds_285 : decode cL_builds 285 = .ok (.goto 4, 3) := by decide +kernel
theorem dL_builds_288 : decode cL_builds 288 = .ok (.iconst 0, 1) := by decide +kernel
theorem dL_builds_289 : decode cL_builds 289 = .ok (.ior, 1) := by decide +kernel
theorem dL_builds_290 : decode cL_builds 290 = .ok (.istore 14, 2) := by decide +kernel
theorem dL_builds_292 : decode cL_builds 292 = .ok (.iinc 15 1, 3) := by decide +kernel
theorem dL_builds_295 : decode cL_builds 295 = .ok (.goto (-32), 3) := by decide +kernel
theorem dL_builds_298 : decode cL_builds 298 = .ok (.iload 14, 2) := by decide +kernel
theorem dL_builds_300 : decode cL_builds 300 = .ok (.ifCond .eq 24, 3) := by decide +kernel
theorem dL_builds_303 : decode cL_builds 303 = .ok (.aload_n 0, 1) := by decide +kernel
theorem dL_builds_304 : decode cL_builds 304 = .ok (.iload 11, 2) := by decide +kernel
theorem dL_builds_306 : decode cL_builds 306 = .ok (.iload 12, 2) := by decide +kernel
theorem dL_builds_308 : decode cL_builds 308 = .ok (.iload 13, 2) := by decide +kernel
theorem dL_builds_310 : decode cL_builds 310 = .ok (.invokestatic 108, 3) := by decide +kernel
theorem dL_builds_313 : decode cL_builds 313 = .ok (.bipush (-73), 2) := by decide +kernel
theorem dL_builds_315 : decode cL_builds 315 = .ok (.if_icmp .ne 7, 3) := by decide +kernel
theorem dL_builds_318 : decode cL_builds 318 = .ok (.iconst 1, 1) := by decide +kernel
theorem dL_builds_319 : decode cL_builds 319 = .ok (.goto 4, 3) := by decide +kernel
theorem dL_builds_322 : decode cL_builds 322 = .ok (.iconst 0, 1) := by decide +kernel
theorem dL_builds_323 : decode cL_builds 323 = .ok (.ireturn, 1) := by decide +kernel
theorem dL_builds_324 : decode cL_builds 324 = .ok (.aload 4, 2) := by decide +kernel
theorem dL_builds_326 : decode cL_builds 326 = .ok (.aload 9, 2) := by decide +kernel
theorem dL_builds_328 : decode cL_builds 328 = .ok (.iconst 0, 1) := by decide +kernel
theorem dL_builds_329 : decode cL_builds 329 = .ok (.iaload, 1) := by decide +kernel
theorem dL_builds_330 : decode cL_builds 330 = .ok (.iload 11, 2) := by decide +kernel
theorem dL_builds_332 : decode cL_builds 332 = .ok (.iastore, 1) := by decide +kernel
theorem dL_builds_333 : decode cL_builds 333 = .ok (.aload 5, 2) := by decide +kernel
theorem dL_builds_335 : decode cL_builds 335 = .ok (.aload 9, 2) := by decide +kernel
theorem dL_builds_337 : decode cL_builds 337 = .ok (.iconst 0, 1) := by decide +kernel
theorem dL_builds_338 : decode cL_builds 338 = .ok (.iaload, 1) := by decide +kernel
theorem dL_builds_339 : decode cL_builds 339 = .ok (.iload 12, 2) := by decide +kernel
theorem dL_builds_341 : decode cL_builds 341 = .ok (.iastore, 1) := by decide +kernel
theorem dL_builds_342 : decode cL_builds 342 = .ok (.aload 6, 2) := by decide +kernel
theorem dL_builds_344 : decode cL_builds 344 = .ok (.aload 9, 2) := by decide +kernel
theorem dL_builds_346 : decode cL_builds 346 = .ok (.iconst 0, 1) := by decide +kernel
theorem dL_builds_347 : decode cL_builds 347 = .ok (.iaload, 1) := by decide +kernel
theorem dL_builds_348 : decode cL_builds 348 = .ok (.iload 13, 2) := by decide +kernel
theorem dL_builds_350 : decode cL_builds 350 = .ok (.iastore, 1) := by decide +kernel
theorem dL_builds_351 : decode cL_builds 351 = .ok (.aload 9, 2) := by decide +kernel
theorem dL_builds_353 : decode cL_builds 353 = .ok (.iconst 0, 1) := by decide +kernel
theorem dL_builds_354 : decode cL_builds 354 = .ok (.dup2, 1) := by decide +kernel
theorem dL_builds_355 : decode cL_builds 355 = .ok (.iaload, 1) := by decide +kernel
theorem dL_builds_356 : decode cL_builds 356 = .ok (.iconst 1, 1) := by decide +kernel
theorem dL_builds_357 : decode cL_builds 357 = .ok (.iadd, 1) := by decide +kernel
theorem dL_builds_358 : decode cL_builds 358 = .ok (.iastore, 1) := by decide +kernel
theorem dL_builds_359 : decode cL_builds 359 = .ok (.aload_n 0, 1) := by decide +kernel
theorem dL_builds_360 : decode cL_builds 360 = .ok (.iload 11, 2) := by decide +kernel
theorem dL_builds_362 : decode cL_builds 362 = .ok (.iload 12, 2) := by decide +kernel
theorem dL_builds_364 : decode cL_builds 364 = .ok (.iload 13, 2) := by decide +kernel
theorem dL_builds_366 : decode cL_builds 366 = .ok (.invokestatic 108, 3) := by decide +kernel
theorem dL_builds_369 : decode cL_builds 369 = .ok (.aload 9, 2) := by decide +kernel
theorem dL_builds_371 : decode cL_builds 371 = .ok (.iconst 0, 1) := by decide +kernel
theorem dL_builds_372 : decode cL_builds 372 = .ok (.iaload, 1) := by decide +kernel
theorem dL_builds_373 : decode cL_builds 373 = .ok (.iconst 1, 1) := by decide +kernel
theorem dL_builds_374 : decode cL_builds 374 = .ok (.isub, 1) := by decide +kernel
theorem dL_builds_375 : decode cL_builds 375 = .ok (.if_icmp .ne 7, 3) := by decide +kernel
theorem dL_builds_378 : decode cL_builds 378 = .ok (.iconst 1, 1) := by decide +kernel
theorem dL_builds_379 : decode cL_builds 379 = .ok (.goto 4, 3) := by decide +kernel
theorem dL_builds_382 : decode cL_builds 382 = .ok (.iconst 0, 1) := by decide +kernel
theorem dL_builds_383 : decode cL_builds 383 = .ok (.ireturn, 1) := by decide +kernel
theorem dL_builds_384 : decode cL_builds 384 = .ok (.iload_n 1, 1) := by decide +kernel
theorem dL_builds_385 : decode cL_builds 385 = .ok (.bipush 9, 2) := by decide +kernel
theorem dL_builds_387 : decode cL_builds 387 = .ok (.if_icmp .ge 169, 3) := by decide +kernel
theorem dL_builds_390 : decode cL_builds 390 = .ok (.iload_n 3, 1) := by decide +kernel
theorem dL_builds_391 : decode cL_builds 391 = .ok (.iconst 2, 1) := by decide +kernel
theorem dL_builds_392 : decode cL_builds 392 = .ok (.invokestatic 104, 3) := by decide +kernel
theorem dL_builds_395 : decode cL_builds 395 = .ok (.istore 11, 2) := by decide +kernel
theorem dL_builds_397 : decode cL_builds 397 = .ok (.aload 9, 2) := by decide +kernel
theorem dL_builds_399 : decode cL_builds 399 = .ok (.iconst 1, 1) := by decide +kernel
theorem dL_builds_400 : decode cL_builds 400 = .ok (.iaload, 1) := by decide +kernel
theorem dL_builds_401 : decode cL_builds 401 = .ok (.bipush 6, 2) := by decide +kernel
theorem dL_builds_403 : decode cL_builds 403 = .ok (.if_icmp .ne 7, 3) := by decide +kernel
theorem dL_builds_406 : decode cL_builds 406 = .ok (.iconst 1, 1) := by decide +kernel
theorem dL_builds_407 : decode cL_builds 407 = .ok (.goto 4, 3) := by decide +kernel
theorem dL_builds_410 : decode cL_builds 410 = .ok (.iconst 0, 1) := by decide +kernel
theorem dL_builds_411 : decode cL_builds 411 = .ok (.istore 12, 2) := by decide +kernel
theorem dL_builds_413 : decode cL_builds 413 = .ok (.iconst 0, 1) := by decide +kernel
theorem dL_builds_414 : decode cL_builds 414 = .ok (.istore 13, 2) := by decide +kernel
theorem dL_builds_416 : decode cL_builds 416 = .ok (.iload 13, 2) := by decide +kernel
theorem dL_builds_418 : decode cL_builds 418 = .ok (.aload 9, 2) := by decide +kernel
theorem dL_builds_420 : decode cL_builds 420 = .ok (.iconst 1, 1) := by decide +kernel
theorem dL_builds_421 : decode cL_builds 421 = .ok (.iaload, 1) := by decide +kernel
theorem dL_builds_422 : decode cL_builds 422 = .ok (.if_icmp .ge 29, 3) := by decide +kernel
theorem dL_builds_425 : decode cL_builds 425 = .ok (.iload 12, 2) := by decide +kernel
theorem dL_builds_427 : decode cL_builds 427 = .ok (.aload 8, 2) := by decide +kernel
theorem dL_builds_429 : decode cL_builds 429 = .ok (.iload 13, 2) := by decide +kernel
theorem dL_builds_431 : decode cL_builds 431 = .ok (.iaload, 1) := by decide +kernel
theorem dL_builds_432 : decode cL_builds 432 = .ok (.iload 11, 2) := by decide +kernel
theorem dL_builds_434 : decode cL_builds 434 = .ok (.if_icmp .ne 7, 3) := by decide +kernel
theorem dL_builds_437 : decode cL_builds 437 = .ok (.iconst 1, 1) := by decide +kernel
theorem dL_builds_438 : decode cL_builds 438 = .ok (.goto 4, 3) := by decide +kernel
theorem dL_builds_441 : decode cL_builds 441 = .ok (.iconst 0, 1) := by decide +kernel
theorem dL_builds_442 : decode cL_builds 442 = .ok (.ior, 1) := by decide +kernel
theorem dL_builds_443 : decode cL_builds 443 = .ok (.istore 12, 2) := by decide +kernel
theorem dL_builds_445 : decode cL_builds 445 = .ok (.iinc 13 1, 3) := by decide +kernel
theorem dL_builds_448 : decode cL_builds 448 = .ok (.goto (-32), 3) := by decide +kernel
theorem dL_builds_451 : decode cL_builds 451 = .ok (.aload_n 0, 1) := by decide +kernel
theorem dL_builds_452 : decode cL_builds 452 = .ok (.sipush 1000, 3) := by decide +kernel
theorem dL_builds_455 : decode cL_builds 455 = .ok (.invokestatic 112, 3) := by decide +kernel
theorem dL_builds_458 : decode cL_builds 458 = .ok (.bipush (-72), 2) := by decide +kernel
theorem dL_builds_460 : decode cL_builds 460 = .ok (.if_icmp .ne 34, 3) := by decide +kernel
theorem dL_builds_463 : decode cL_builds 463 = .ok (.aload_n 0, 1) := by decide +kernel
theorem dL_builds_464 : decode cL_builds 464 = .ok (.iconst 1, 1) := by decide +kernel
theorem dL_builds_465 : decode cL_builds 465 = .ok (.invokestatic 112, 3) := by decide +kernel
theorem dL_builds_468 : decode cL_builds 468 = .ok (.bipush (-72), 2) := by decide +kernel
theorem dL_builds_470 : decode cL_builds 470 = .ok (.if_icmp .ne 24, 3) := by decide +kernel
theorem dL_builds_473 : decode cL_builds 473 = .ok (.aload_n 0, 1) := by decide +kernel
theorem dL_builds_474 : decode cL_builds 474 = .ok (.bipush 20, 2) := by decide +kernel
theorem dL_builds_476 : decode cL_builds 476 = .ok (.invokestatic 112, 3) := by decide +kernel
theorem dL_builds_479 : decode cL_builds 479 = .ok (.bipush (-72), 2) := by decide +kernel
theorem dL_builds_481 : decode cL_builds 481 = .ok (.if_icmp .ne 13, 3) := by decide +kernel
theorem dL_builds_484 : decode cL_builds 484 = .ok (.aload_n 0, 1) := by decide +kernel
theorem dL_builds_485 : decode cL_builds 485 = .ok (.iconst 0, 1) := by decide +kernel
theorem dL_builds_486 : decode cL_builds 486 = .ok (.invokestatic 112, 3) := by decide +kernel
theorem dL_builds_489 : decode cL_builds 489 = .ok (.bipush (-72), 2) := by decide +kernel
theorem dL_builds_491 : decode cL_builds 491 = .ok (.if_icmp .eq 5, 3) := by decide +kernel
theorem dL_builds_494 : decode cL_builds 494 = .ok (.iconst 0, 1) := by decide +kernel
theorem dL_builds_495 : decode cL_builds 495 = .ok (.ireturn, 1) := by decide +kernel
theorem dL_builds_496 : decode cL_builds 496 = .ok (.iload 12, 2) := by decide +kernel
theorem dL_builds_498 : decode cL_builds 498 = .ok (.ifCond .eq 20, 3) := by decide +kernel
theorem dL_builds_501 : decode cL_builds 501 = .ok (.aload_n 0, 1) := by decide +kernel
theorem dL_builds_502 : decode cL_builds 502 = .ok (.iload 11, 2) := by decide +kernel
theorem dL_builds_504 : decode cL_builds 504 = .ok (.invokestatic 112, 3) := by decide +kernel
theorem dL_builds_507 : decode cL_builds 507 = .ok (.bipush (-73), 2) := by decide +kernel
theorem dL_builds_509 : decode cL_builds 509 = .ok (.if_icmp .ne 7, 3) := by decide +kernel
theorem dL_builds_512 : decode cL_builds 512 = .ok (.iconst 1, 1) := by decide +kernel
theorem dL_builds_513 : decode cL_builds 513 = .ok (.goto 4, 3) := by decide +kernel
theorem dL_builds_516 : decode cL_builds 516 = .ok (.iconst 0, 1) := by decide +kernel
theorem dL_builds_517 : decode cL_builds 517 = .ok (.ireturn, 1) := by decide +kernel
theorem dL_builds_518 : decode cL_builds 518 = .ok (.aload 8, 2) := by decide +kernel
theorem dL_builds_520 : decode cL_builds 520 = .ok (.aload 9, 2) := by decide +kernel
theorem dL_builds_522 : decode cL_builds 522 = .ok (.iconst 1, 1) := by decide +kernel
theorem dL_builds_523 : decode cL_builds 523 = .ok (.iaload, 1) := by decide +kernel
theorem dL_builds_524 : decode cL_builds 524 = .ok (.iload 11, 2) := by decide +kernel
theorem dL_builds_526 : decode cL_builds 526 = .ok (.iastore, 1) := by decide +kernel
theorem dL_builds_527 : decode cL_builds 527 = .ok (.aload 9, 2) := by decide +kernel
theorem dL_builds_529 : decode cL_builds 529 = .ok (.iconst 1, 1) := by decide +kernel
theorem dL_builds_530 : decode cL_builds 530 = .ok (.dup2, 1) := by decide +kernel
theorem dL_builds_531 : decode cL_builds 531 = .ok (.iaload, 1) := by decide +kernel
theorem dL_builds_532 : decode cL_builds 532 = .ok (.iconst 1, 1) := by decide +kernel
theorem dL_builds_533 : decode cL_builds 533 = .ok (.iadd, 1) := by decide +kernel
theorem dL_builds_534 : decode cL_builds 534 = .ok (.iastore, 1) := by decide +kernel
theorem dL_builds_535 : decode cL_builds 535 = .ok (.aload_n 0, 1) := by decide +kernel
theorem dL_builds_536 : decode cL_builds 536 = .ok (.iload 11, 2) := by decide +kernel
theorem dL_builds_538 : decode cL_builds 538 = .ok (.invokestatic 112, 3) := by decide +kernel
theorem dL_builds_541 : decode cL_builds 541 = .ok (.aload 9, 2) := by decide +kernel
theorem dL_builds_543 : decode cL_builds 543 = .ok (.iconst 1, 1) := by decide +kernel
theorem dL_builds_544 : decode cL_builds 544 = .ok (.iaload, 1) := by decide +kernel
theorem dL_builds_545 : decode cL_builds 545 = .ok (.iconst 1, 1) := by decide +kernel
theorem dL_builds_546 : decode cL_builds 546 = .ok (.isub, 1) := by decide +kernel
theorem dL_builds_547 : decode cL_builds 547 = .ok (.if_icmp .ne 7, 3) := by decide +kernel
theorem dL_builds_550 : decode cL_builds 550 = .ok (.iconst 1, 1) := by decide +kernel
theorem dL_builds_551 : decode cL_builds 551 = .ok (.goto 4, 3) := by decide +kernel
theorem dL_builds_554 : decode cL_builds 554 = .ok (.iconst 0, 1) := by decide +kernel
theorem dL_builds_555 : decode cL_builds 555 = .ok (.ireturn, 1) := by decide +kernel
theorem dL_builds_556 : decode cL_builds 556 = .ok (.iload 10, 2) := by decide +kernel
theorem dL_builds_558 : decode cL_builds 558 = .ok (.aload 9, 2) := by decide +kernel
theorem dL_builds_560 : decode cL_builds 560 = .ok (.iconst 0, 1) := by decide +kernel
theorem dL_builds_561 : decode cL_builds 561 = .ok (.iaload, 1) := by decide +kernel
theorem dL_builds_562 : decode cL_builds 562 = .ok (.if_icmp .ne 76, 3) := by decide +kernel
theorem dL_builds_565 : decode cL_builds 565 = .ok (.aload_n 0, 1) := by decide +kernel
theorem dL_builds_566 : decode cL_builds 566 = .ok (.iload 10, 2) := by decide +kernel
theorem dL_builds_568 : decode cL_builds 568 = .ok (.bipush 8, 2) := by decide +kernel
theorem dL_builds_570 : decode cL_builds 570 = .ok (.invokestatic 115, 3) := by decide +kernel
theorem dL_builds_573 : decode cL_builds 573 = .ok (.bipush (-71), 2) := by decide +kernel
theorem dL_builds_575 : decode cL_builds 575 = .ok (.if_icmp .ne 61, 3) := by decide +kernel
theorem dL_builds_578 : decode cL_builds 578 = .ok (.aload_n 0, 1) := by decide +kernel
theorem dL_builds_579 : decode cL_builds 579 = .ok (.iload 10, 2) := by decide +kernel
theorem dL_builds_581 : decode cL_builds 581 = .ok (.iconst 0, 1) := by decide +kernel
theorem dL_builds_582 : decode cL_builds 582 = .ok (.iconst 1, 1) := by decide +kernel
theorem dL_builds_583 : decode cL_builds 583 = .ok (.invokestatic 118, 3) := by decide +kernel
theorem dL_builds_586 : decode cL_builds 586 = .ok (.bipush (-71), 2) := by decide +kernel
theorem dL_builds_588 : decode cL_builds 588 = .ok (.if_icmp .ne 48, 3) := by decide +kernel
theorem dL_builds_591 : decode cL_builds 591 = .ok (.aload_n 0, 1) := by decide +kernel
theorem dL_builds_592 : decode cL_builds 592 = .ok (.iconst 0, 1) := by decide +kernel
theorem dL_builds_593 : decode cL_builds 593 = .ok (.iload 10, 2) := by decide +kernel
theorem dL_builds_595 : decode cL_builds 595 = .ok (.iconst 1, 1) := by decide +kernel
theorem dL_builds_596 : decode cL_builds 596 = .ok (.invokestatic 118, 3) := by decide +kernel
theorem dL_builds_599 : decode cL_builds 599 = .ok (.bipush (-71), 2) := by decide +kernel
theorem dL_builds_601 : decode cL_builds 601 = .ok (.if_icmp .ne 35, 3) := by decide +kernel
theorem dL_builds_604 : decode cL_builds 604 = .ok (.aload_n 0, 1) := by decide +kernel
theorem dL_builds_605 : decode cL_builds 605 = .ok (.iload 10, 2) := by decide +kernel
theorem dL_builds_607 : decode cL_builds 607 = .ok (.iconst 0, 1) := by decide +kernel
theorem dL_builds_608 : decode cL_builds 608 = .ok (.iconst 1, 1) := by decide +kernel
theorem dL_builds_609 : decode cL_builds 609 = .ok (.invokestatic 121, 3) := by decide +kernel
theorem dL_builds_612 : decode cL_builds 612 = .ok (.bipush (-71), 2) := by decide +kernel
theorem dL_builds_614 : decode cL_builds 614 = .ok (.if_icmp .ne 22, 3) := by decide +kernel
theorem dL_builds_617 : decode cL_builds 617 = .ok (.aload_n 0, 1) := by decide +kernel
theorem dL_builds_618 : decode cL_builds 618 = .ok (.iconst 0, 1) := by decide +kernel
theorem dL_builds_619 : decode cL_builds 619 = .ok (.aload 9, 2) := by decide +kernel
theorem dL_builds_621 : decode cL_builds 621 = .ok (.iconst 1, 1) := by decide +kernel
theorem dL_builds_622 : decode cL_builds 622 = .ok (.iaload, 1) := by decide +kernel
